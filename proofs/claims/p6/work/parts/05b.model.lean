set_option maxHeartbeats 4000000 in
set_option maxRecDepth 100000 in
theorem c_X6_first (l : Launch) (G : mG) (h : Nat → Nat) (n : Nat) (T : Nat → Int32) (z : Nat → Nat) (A : Nat → tA) (f : mF) (hI : IM G h n T z A f) (a o j : Int32) (ha : 0 ≤ a.toInt ∧ a.toInt ≤ 41) (ho : 0 ≤ o.toInt ∧ o.toInt < n) (hjj : 0 ≤ j.toInt ∧ j.toInt < 8) : Met l yX6_first wsX6_first ({ frames := 1, cells := 0, slots := 0, locals := 21 }) (va_Pc [.ref (h 0), .int a, .int o, .int j] (mW G f)) (va_Qv (fun (u : mS) => IM G h n T z A u.2 ∧ frM h f u.2 ∧ kpM h f u.2) (fun (u : mS) t => mW G u.2 t) (mA G)) 0 0 (mA G) := by
  refine mMet [.ref (h 0), .int a, .int o, .int j] (cc := cX6_first) (maxL := 5) (ret := none) (by decide) rfl (Nat.le_of_ble_eq_true rfl) ?_
  intro p e s m below meth c ls hx hb hr hml hts hown hlk hnm hC hH hl
  have hl : lv_has ls 5 [(0, .ref (h 0)), (1, .int a), (2, .int o), (3, .int j)] := hl
  have hj := hI.2.2.1
  have hn24 := hI.2.2.2.1
  have nIn : (nI n).toInt = (n : Int) := nI_toInt (by omega)
  have hfr : frM h f f := frM.rf
  have hkp : kpM h f f := kpM.rf
  refine lv_sipush (v := 192) hx hb dX6_first_0 (by decide) ?_
  refine lv_iload_n hx hb dX6_first_3 rfl (lv_at hl 1 rfl) ?_
  refine lv_imul hx hb dX6_first_4 ?_
  refine lv_topi (fun x_1 ex_1 => ?_)
  have ix_1 : x_1.toInt = 192 * a.toInt := ic_mul ex_1 kI_192 rfl (by omega) (by omega)
  refine lv_bipush (v := 8) hx hb dX6_first_5 (by decide) ?_
  refine lv_iload_n hx hb dX6_first_7 rfl (lv_at hl 2 rfl) ?_
  refine lv_imul hx hb dX6_first_8 ?_
  refine lv_topi (fun x_2 ex_2 => ?_)
  have ix_2 : x_2.toInt = 8 * o.toInt := ic_mul ex_2 kI_8 rfl (by omega) (by omega)
  refine lv_iadd hx hb dX6_first_9 ?_
  refine lv_topi (fun x_3 ex_3 => ?_)
  have ix_3 : x_3.toInt = x_1.toInt + x_2.toInt := ic_add ex_3 rfl rfl (by omega) (by omega)
  refine lv_iload_n hx hb dX6_first_10 rfl (lv_at hl 3 rfl) ?_
  refine lv_iadd hx hb dX6_first_11 ?_
  refine lv_topi (fun x_4 ex_4 => ?_)
  have ix_4 : x_4.toInt = x_3.toInt + j.toInt := ic_add ex_4 rfl rfl (by omega) (by omega)
  refine lv_istore (lv' := [(4, .int x_4), (0, .ref (h 0)), (1, .int a), (2, .int o), (3, .int j)]) hx hb dX6_first_12 hl (by decide) rfl (fun ls hl => ?_)
  refine lv_aload_n hx hb dX6_first_14 rfl (lv_at hl 1 rfl) ?_
  obtain ⟨he_5, fe_5, ca_5, ga_5, wh_5, tm_5, wm_5, ac_5, th_5, st_5, F_5, b1_5, b2_5, b3_5, b4_5, b5_5, b6_5, b7_5, b8_5⟩ : okM0 h n (f (h 0)) := hI.1 0 (by decide)
  refine m_get (ci := 6) (v := .ref (h 3)) (C := RX6) (T := TX6) (N := 30) hx hb hC hH hts in_X6_first_X6 hown F_5 rfl 3 (by decide) (hts (.fieldLink RX6 13 "LazyStateModel" "numbers" "[J") (by decide +kernel)) rfl dX6_first_15 ?_
  refine lv_iload hx hb dX6_first_18 (lv_at hl 0 rfl) ?_
  refine lv_iload_n hx hb dX6_first_20 rfl (lv_at hl 4 rfl) ?_
  refine lv_aload_n hx hb dX6_first_21 rfl (lv_at hl 1 rfl) ?_
  refine m_get (ci := 6) (v := .ref (h 1)) (C := RX6) (T := TX6) (N := 30) hx hb hC hH hts in_X6_first_X6 hown F_5 rfl 1 (by decide) (hts (.fieldLink RX6 7 "LazyStateModel" "types" "[I") (by decide +kernel)) rfl dX6_first_22 ?_
  refine lv_iload_n hx hb dX6_first_25 rfl (lv_at hl 3 rfl) ?_
  obtain ⟨g_6, hg_6, hp_6⟩ : okI G 0 24 (fun g => ∀ o, o < n → g o = T o) (f (h 1)) := hI.1 1 (by decide)
  refine m_iald hx hb hC hH hg_6 (vp_in_iff.mpr ⟨by omega, by omega⟩) dX6_first_26 ?_
  refine lv_topi (fun x_7 ex_7 => ?_)
  refine m_goi hH (va_runS (As := [.int x_7]) (rest := [.int j, .int x_4, .ref (h 3)]) ⟨hx, hb, hml, hown, hts⟩ (c_X6_fieldsOf l G f x_7) (va_cwS 1 hts gX6_first_X6_fieldsOf rfl rfl rfl (by decide +kernel) ⟨Nat.le_of_ble_eq_true rfl, Nat.le_of_ble_eq_true rfl⟩) (m_preS hC hH) rfl rfl hl.1 rfl (lv_room (Nat.le_of_ble_eq_true rfl)) dX6_first_27 ⟨Nat.le_of_ble_eq_true rfl, Nat.le_of_ble_eq_true rfl⟩) (fun r_8 rho_10 f_9 H locs hw hH => ?_)
  obtain ⟨hu, hr_8⟩ := hw
  have hu : f_9 = f := hu
  rw [hu] at hH
  have br_8 : 3 ≤ r_8.toInt ∧ r_8.toInt ≤ 6 := by rw [hr_8]; unfold fldM; (repeat' split) <;> omega
  refine lv_icmp_ge (tgt := 53) hx hb dX6_first_30 (by decide) (fun c_11 => ?_) (fun c_11 => ?_)
  · skip
    have ic_11 : (r_8.toInt : Int) ≤ j.toInt := ic_le rfl rfl c_11
    refine lv_lconst (v := 0) hx hb dX6_first_53 (by decide) ?_
    obtain ⟨g_12, hg_12, hp_12⟩ : okJ G 8064 (pNu n T) (f (h 3)) := hI.1 3 (by decide)
    refine m_last hx hb hC hH hg_12 (vp_in_iff.mpr ⟨by omega, by omega⟩) dX6_first_54 (fun H locs hH => ?_)
    obtain ⟨f_13, ef_13⟩ : ∃ zz_ : mF, zz_ = va_up f (h 3) (some (.inl (gk G 1, 8064, .inr (.inl (vp_updL g_12 x_4.toNatClampNeg 0))))) := ⟨_, rfl⟩
    rw [← ef_13] at hH
    have F_14 := upk F_5 ef_13 (neM hj (by decide) (by decide) (by decide))
    have hI : IM G h n T z A f_13 := hI.arr 3 (by decide) (by decide) (by decide) (by decide) (show okJ G 8064 (pNu n T) _ from ⟨_, rfl, pNu_put (i := x_4) (a := a.toInt) (o := o.toInt) (j := j.toInt) (on := o.toNatClampNeg) hp_12 (by omega) (by omega) (by omega) (by omega) (by omega) (by omega) (by omega) (by omega) rfl (fun _ => by have := kJ_0; omega)⟩) ef_13
    have hfr := hfr.up 3 (by decide) ef_13
    have hkp := hkp.up 3 hj (by decide) (by decide) ef_13
    refine lv_aload_n hx hb dX6_first_55 rfl (lv_at hl 1 rfl) ?_
    refine m_get (ci := 6) (v := .ref (h 4)) (C := RX6) (T := TX6) (N := 30) hx hb hC hH hts in_X6_first_X6 hown F_14 rfl 4 (by decide) (hts (.fieldLink RX6 17 "LazyStateModel" "sizes" "[I") (by decide +kernel)) rfl dX6_first_56 ?_
    refine lv_iload hx hb dX6_first_59 (lv_at hl 0 rfl) ?_
    refine lv_bipush (v := (-3)) hx hb dX6_first_61 (by decide) ?_
    obtain ⟨g_15, hg_15, hp_15⟩ : okI G 0 8064 (fun g => ∀ L, L < 8064 → (g L).toInt ≤ 8) (f_13 (h 4)) := hI.1 4 (by decide)
    refine m_iast hx hb hC hH hg_15 (vp_in_iff.mpr ⟨by omega, by omega⟩) dX6_first_63 (fun H locs hH => ?_)
    obtain ⟨f_16, ef_16⟩ : ∃ zz_ : mF, zz_ = va_up f_13 (h 4) (some (.inl (gk G 0, 8064, .inl (upd g_15 x_4.toNatClampNeg (-3))))) := ⟨_, rfl⟩
    rw [← ef_16] at hH
    have F_17 := upk F_14 ef_16 (neM hj (by decide) (by decide) (by decide))
    have hI : IM G h n T z A f_16 := hI.arr 4 (by decide) (by decide) (by decide) (by decide) (show okI G 0 8064 (fun g => ∀ L, L < 8064 → (g L).toInt ≤ 8) _ from ⟨_, rfl, upd_all (P := fun x : Int32 => x.toInt ≤ 8) hp_15 (by have := kI_m3; omega)⟩) ef_16
    have hfr := hfr.up 4 (by decide) ef_16
    have hkp := hkp.up 4 hj (by decide) (by decide) ef_16
    exact m_vret hx hb hr hlk hC hH (fun _ => (0, 0)) ⟨hI, hfr, hkp⟩ (Nat.le_of_ble_eq_true rfl) (Nat.le_of_ble_eq_true rfl) dX6_first_64
  · skip
    have ic_11 : (r_8.toInt : Int) > j.toInt := ic_nle rfl rfl c_11
    refine lv_aload_n hx hb dX6_first_33 rfl (lv_at hl 1 rfl) ?_
    refine m_get (ci := 6) (v := .ref (h 1)) (C := RX6) (T := TX6) (N := 30) hx hb hC hH hts in_X6_first_X6 hown F_5 rfl 1 (by decide) (hts (.fieldLink RX6 7 "LazyStateModel" "types" "[I") (by decide +kernel)) rfl dX6_first_34 ?_
    refine lv_iload_n hx hb dX6_first_37 rfl (lv_at hl 3 rfl) ?_
    refine m_iald hx hb hC hH hg_6 (vp_in_iff.mpr ⟨by omega, by omega⟩) dX6_first_38 ?_
    refine lv_topi (fun x_18 ex_18 => ?_)
    refine lv_iload_n hx hb dX6_first_39 rfl (lv_at hl 4 rfl) ?_
    refine m_goi hH (va_runS (As := [.int x_18, .int j]) (rest := [.int x_4, .ref (h 3)]) ⟨hx, hb, hml, hown, hts⟩ (c_X6_sortOf l G f x_18 j) (va_cwS 2 hts gX6_first_X6_sortOf rfl rfl rfl (by decide +kernel) ⟨Nat.le_of_ble_eq_true rfl, Nat.le_of_ble_eq_true rfl⟩) (m_preS hC hH) rfl rfl hl.1 rfl (lv_room (Nat.le_of_ble_eq_true rfl)) dX6_first_40 ⟨Nat.le_of_ble_eq_true rfl, Nat.le_of_ble_eq_true rfl⟩) (fun r_19 rho_21 f_20 H locs hw hH => ?_)
    obtain ⟨hu, hr_19⟩ := hw
    have hu : f_20 = f := hu
    rw [hu] at hH
    refine lv_iconst (v := 1) hx hb dX6_first_43 (by decide) ?_
    refine lv_icmp_ne (tgt := 53) hx hb dX6_first_44 (by decide) (fun c_22 => ?_) (fun c_22 => ?_)
    · skip
      have ic_22 : (r_19.toInt : Int) ≠ 1 := ic_ne rfl kI_1 c_22
      refine lv_lconst (v := 0) hx hb dX6_first_53 (by decide) ?_
      obtain ⟨g_23, hg_23, hp_23⟩ : okJ G 8064 (pNu n T) (f (h 3)) := hI.1 3 (by decide)
      refine m_last hx hb hC hH hg_23 (vp_in_iff.mpr ⟨by omega, by omega⟩) dX6_first_54 (fun H locs hH => ?_)
      obtain ⟨f_24, ef_24⟩ : ∃ zz_ : mF, zz_ = va_up f (h 3) (some (.inl (gk G 1, 8064, .inr (.inl (vp_updL g_23 x_4.toNatClampNeg 0))))) := ⟨_, rfl⟩
      rw [← ef_24] at hH
      have F_25 := upk F_5 ef_24 (neM hj (by decide) (by decide) (by decide))
      have hI : IM G h n T z A f_24 := hI.arr 3 (by decide) (by decide) (by decide) (by decide) (show okJ G 8064 (pNu n T) _ from ⟨_, rfl, pNu_put (i := x_4) (a := a.toInt) (o := o.toInt) (j := j.toInt) (on := o.toNatClampNeg) hp_23 (by omega) (by omega) (by omega) (by omega) (by omega) (by omega) (by omega) (by omega) rfl (fun _ => by have := kJ_0; omega)⟩) ef_24
      have hfr := hfr.up 3 (by decide) ef_24
      have hkp := hkp.up 3 hj (by decide) (by decide) ef_24
      refine lv_aload_n hx hb dX6_first_55 rfl (lv_at hl 1 rfl) ?_
      refine m_get (ci := 6) (v := .ref (h 4)) (C := RX6) (T := TX6) (N := 30) hx hb hC hH hts in_X6_first_X6 hown F_25 rfl 4 (by decide) (hts (.fieldLink RX6 17 "LazyStateModel" "sizes" "[I") (by decide +kernel)) rfl dX6_first_56 ?_
      refine lv_iload hx hb dX6_first_59 (lv_at hl 0 rfl) ?_
      refine lv_bipush (v := (-3)) hx hb dX6_first_61 (by decide) ?_
      obtain ⟨g_26, hg_26, hp_26⟩ : okI G 0 8064 (fun g => ∀ L, L < 8064 → (g L).toInt ≤ 8) (f_24 (h 4)) := hI.1 4 (by decide)
      refine m_iast hx hb hC hH hg_26 (vp_in_iff.mpr ⟨by omega, by omega⟩) dX6_first_63 (fun H locs hH => ?_)
      obtain ⟨f_27, ef_27⟩ : ∃ zz_ : mF, zz_ = va_up f_24 (h 4) (some (.inl (gk G 0, 8064, .inl (upd g_26 x_4.toNatClampNeg (-3))))) := ⟨_, rfl⟩
      rw [← ef_27] at hH
      have F_28 := upk F_25 ef_27 (neM hj (by decide) (by decide) (by decide))
      have hI : IM G h n T z A f_27 := hI.arr 4 (by decide) (by decide) (by decide) (by decide) (show okI G 0 8064 (fun g => ∀ L, L < 8064 → (g L).toInt ≤ 8) _ from ⟨_, rfl, upd_all (P := fun x : Int32 => x.toInt ≤ 8) hp_26 (by have := kI_m3; omega)⟩) ef_27
      have hfr := hfr.up 4 (by decide) ef_27
      have hkp := hkp.up 4 hj (by decide) (by decide) ef_27
      exact m_vret hx hb hr hlk hC hH (fun _ => (0, 0)) ⟨hI, hfr, hkp⟩ (Nat.le_of_ble_eq_true rfl) (Nat.le_of_ble_eq_true rfl) dX6_first_64
    · skip
      have ic_22 : (r_19.toInt : Int) = 1 := ic_eq rfl kI_1 c_22
      refine lv_ldc2 (v := (-3)) hx hb hown (hts (.constantLong RX6 93 (-3)) (by decide +kernel)) dX6_first_47 ?_
      refine lv_goto (tgt := 54) hx hb dX6_first_50 (by decide) ?_
      obtain ⟨g_29, hg_29, hp_29⟩ : okJ G 8064 (pNu n T) (f (h 3)) := hI.1 3 (by decide)
      refine m_last hx hb hC hH hg_29 (vp_in_iff.mpr ⟨by omega, by omega⟩) dX6_first_54 (fun H locs hH => ?_)
      obtain ⟨f_30, ef_30⟩ : ∃ zz_ : mF, zz_ = va_up f (h 3) (some (.inl (gk G 1, 8064, .inr (.inl (vp_updL g_29 x_4.toNatClampNeg (-3)))))) := ⟨_, rfl⟩
      rw [← ef_30] at hH
      have F_31 := upk F_5 ef_30 (neM hj (by decide) (by decide) (by decide))
      have hI : IM G h n T z A f_30 := hI.arr 3 (by decide) (by decide) (by decide) (by decide) (show okJ G 8064 (pNu n T) _ from ⟨_, rfl, pNu_put (i := x_4) (a := a.toInt) (o := o.toInt) (j := j.toInt) (on := o.toNatClampNeg) hp_29 (by omega) (by omega) (by omega) (by omega) (by omega) (by omega) (by omega) (by omega) rfl (fun _ => by have := kJ_m3; omega)⟩) ef_30
      have hfr := hfr.up 3 (by decide) ef_30
      have hkp := hkp.up 3 hj (by decide) (by decide) ef_30
      refine lv_aload_n hx hb dX6_first_55 rfl (lv_at hl 1 rfl) ?_
      refine m_get (ci := 6) (v := .ref (h 4)) (C := RX6) (T := TX6) (N := 30) hx hb hC hH hts in_X6_first_X6 hown F_31 rfl 4 (by decide) (hts (.fieldLink RX6 17 "LazyStateModel" "sizes" "[I") (by decide +kernel)) rfl dX6_first_56 ?_
      refine lv_iload hx hb dX6_first_59 (lv_at hl 0 rfl) ?_
      refine lv_bipush (v := (-3)) hx hb dX6_first_61 (by decide) ?_
      obtain ⟨g_32, hg_32, hp_32⟩ : okI G 0 8064 (fun g => ∀ L, L < 8064 → (g L).toInt ≤ 8) (f_30 (h 4)) := hI.1 4 (by decide)
      refine m_iast hx hb hC hH hg_32 (vp_in_iff.mpr ⟨by omega, by omega⟩) dX6_first_63 (fun H locs hH => ?_)
      obtain ⟨f_33, ef_33⟩ : ∃ zz_ : mF, zz_ = va_up f_30 (h 4) (some (.inl (gk G 0, 8064, .inl (upd g_32 x_4.toNatClampNeg (-3))))) := ⟨_, rfl⟩
      rw [← ef_33] at hH
      have F_34 := upk F_31 ef_33 (neM hj (by decide) (by decide) (by decide))
      have hI : IM G h n T z A f_33 := hI.arr 4 (by decide) (by decide) (by decide) (by decide) (show okI G 0 8064 (fun g => ∀ L, L < 8064 → (g L).toInt ≤ 8) _ from ⟨_, rfl, upd_all (P := fun x : Int32 => x.toInt ≤ 8) hp_32 (by have := kI_m3; omega)⟩) ef_33
      have hfr := hfr.up 4 (by decide) ef_33
      have hkp := hkp.up 4 hj (by decide) (by decide) ef_33
      exact m_vret hx hb hr hlk hC hH (fun _ => (0, 0)) ⟨hI, hfr, hkp⟩ (Nat.le_of_ble_eq_true rfl) (Nat.le_of_ble_eq_true rfl) dX6_first_64
set_option maxHeartbeats 4000000 in
set_option maxRecDepth 100000 in
theorem c_X6_copyLeaf (l : Launch) (G : mG) (h : Nat → Nat) (n : Nat) (T : Nat → Int32) (z : Nat → Nat) (A : Nat → tA) (f : mF) (hI : IM G h n T z A f) (a b j : Int32) (ha : 0 ≤ a.toInt ∧ a.toInt ≤ 41) (hb_ : 0 ≤ b.toInt ∧ b.toInt ≤ 41) (hjj : 0 ≤ j.toInt ∧ j.toInt < 192) : Met l yX6_copyLeaf wsX6_copyLeaf ({ frames := 0, cells := 0, slots := 0, locals := 0 }) (va_Pc [.ref (h 0), .int a, .int b, .int j] (mW G f)) (va_Qv (fun (u : mS) => IM G h n T z A u.2 ∧ frM h f u.2 ∧ kpM h f u.2) (fun (u : mS) t => mW G u.2 t) (mA G)) 0 0 (mA G) := by
  refine mMet [.ref (h 0), .int a, .int b, .int j] (cc := cX6_copyLeaf) (maxL := 7) (ret := none) (by decide) rfl (Nat.le_of_ble_eq_true rfl) ?_
  intro p e s m below meth c ls hx hb hr hml hts hown hlk hnm hC hH hl
  have hl : lv_has ls 7 [(0, .ref (h 0)), (1, .int a), (2, .int b), (3, .int j)] := hl
  have hj := hI.2.2.1
  have hn24 := hI.2.2.2.1
  have nIn : (nI n).toInt = (n : Int) := nI_toInt (by omega)
  have hfr : frM h f f := frM.rf
  have hkp : kpM h f f := kpM.rf
  refine lv_sipush (v := 192) hx hb dX6_copyLeaf_0 (by decide) ?_
  refine lv_iload_n hx hb dX6_copyLeaf_3 rfl (lv_at hl 1 rfl) ?_
  refine lv_imul hx hb dX6_copyLeaf_4 ?_
  refine lv_topi (fun x_1 ex_1 => ?_)
  have ix_1 : x_1.toInt = 192 * a.toInt := ic_mul ex_1 kI_192 rfl (by omega) (by omega)
  refine lv_iload_n hx hb dX6_copyLeaf_5 rfl (lv_at hl 3 rfl) ?_
  refine lv_iadd hx hb dX6_copyLeaf_6 ?_
  refine lv_topi (fun x_2 ex_2 => ?_)
  have ix_2 : x_2.toInt = x_1.toInt + j.toInt := ic_add ex_2 rfl rfl (by omega) (by omega)
  refine lv_istore (lv' := [(4, .int x_2), (0, .ref (h 0)), (1, .int a), (2, .int b), (3, .int j)]) hx hb dX6_copyLeaf_7 hl (by decide) rfl (fun ls hl => ?_)
  refine lv_sipush (v := 192) hx hb dX6_copyLeaf_9 (by decide) ?_
  refine lv_iload_n hx hb dX6_copyLeaf_12 rfl (lv_at hl 3 rfl) ?_
  refine lv_imul hx hb dX6_copyLeaf_13 ?_
  refine lv_topi (fun x_3 ex_3 => ?_)
  have ix_3 : x_3.toInt = 192 * b.toInt := ic_mul ex_3 kI_192 rfl (by omega) (by omega)
  refine lv_iload_n hx hb dX6_copyLeaf_14 rfl (lv_at hl 4 rfl) ?_
  refine lv_iadd hx hb dX6_copyLeaf_15 ?_
  refine lv_topi (fun x_4 ex_4 => ?_)
  have ix_4 : x_4.toInt = x_3.toInt + j.toInt := ic_add ex_4 rfl rfl (by omega) (by omega)
  refine lv_istore (lv' := [(5, .int x_4), (4, .int x_2), (0, .ref (h 0)), (1, .int a), (2, .int b), (3, .int j)]) hx hb dX6_copyLeaf_16 hl (by decide) rfl (fun ls hl => ?_)
  refine lv_aload_n hx hb dX6_copyLeaf_18 rfl (lv_at hl 2 rfl) ?_
  obtain ⟨he_5, fe_5, ca_5, ga_5, wh_5, tm_5, wm_5, ac_5, th_5, st_5, F_5, b1_5, b2_5, b3_5, b4_5, b5_5, b6_5, b7_5, b8_5⟩ : okM0 h n (f (h 0)) := hI.1 0 (by decide)
  refine m_get (ci := 6) (v := .ref (h 3)) (C := RX6) (T := TX6) (N := 30) hx hb hC hH hts in_X6_copyLeaf_X6 hown F_5 rfl 3 (by decide) (hts (.fieldLink RX6 13 "LazyStateModel" "numbers" "[J") (by decide +kernel)) rfl dX6_copyLeaf_19 ?_
  refine lv_iload hx hb dX6_copyLeaf_22 (lv_at hl 0 rfl) ?_
  refine lv_aload_n hx hb dX6_copyLeaf_24 rfl (lv_at hl 2 rfl) ?_
  refine m_get (ci := 6) (v := .ref (h 3)) (C := RX6) (T := TX6) (N := 30) hx hb hC hH hts in_X6_copyLeaf_X6 hown F_5 rfl 3 (by decide) (hts (.fieldLink RX6 13 "LazyStateModel" "numbers" "[J") (by decide +kernel)) rfl dX6_copyLeaf_25 ?_
  refine lv_iload hx hb dX6_copyLeaf_28 (lv_at hl 1 rfl) ?_
  obtain ⟨g_6, hg_6, hp_6⟩ : okJ G 8064 (pNu n T) (f (h 3)) := hI.1 3 (by decide)
  refine m_lald hx hb hC hH hg_6 (vp_in_iff.mpr ⟨by omega, by omega⟩) dX6_copyLeaf_30 ?_
  refine lv_topl (fun y_7 ey_7 => ?_)
  refine m_last hx hb hC hH hg_6 (vp_in_iff.mpr ⟨by omega, by omega⟩) dX6_copyLeaf_31 (fun H locs hH => ?_)
  obtain ⟨f_8, ef_8⟩ : ∃ zz_ : mF, zz_ = va_up f (h 3) (some (.inl (gk G 1, 8064, .inr (.inl (vp_updL g_6 x_4.toNatClampNeg y_7))))) := ⟨_, rfl⟩
  rw [← ef_8] at hH
  have F_9 := upk F_5 ef_8 (neM hj (by decide) (by decide) (by decide))
  have hI : IM G h n T z A f_8 := hI.arr 3 (by decide) (by decide) (by decide) (by decide) (show okJ G 8064 (pNu n T) _ from ⟨_, rfl, by rw [ey_7]; exact pNu_copy hp_6 (ic_cl rfl (by omega) (by omega)) (by have := ic_clN (rfl : x_4.toInt = _) (by omega); have := ic_clN (rfl : x_2.toInt = _) (by omega); omega)⟩) ef_8
  have hfr := hfr.up 3 (by decide) ef_8
  have hkp := hkp.up 3 hj (by decide) (by decide) ef_8
  refine lv_aload_n hx hb dX6_copyLeaf_32 rfl (lv_at hl 2 rfl) ?_
  refine m_get (ci := 6) (v := .ref (h 4)) (C := RX6) (T := TX6) (N := 30) hx hb hC hH hts in_X6_copyLeaf_X6 hown F_9 rfl 4 (by decide) (hts (.fieldLink RX6 17 "LazyStateModel" "sizes" "[I") (by decide +kernel)) rfl dX6_copyLeaf_33 ?_
  refine lv_iload hx hb dX6_copyLeaf_36 (lv_at hl 0 rfl) ?_
  refine lv_aload_n hx hb dX6_copyLeaf_38 rfl (lv_at hl 2 rfl) ?_
  refine m_get (ci := 6) (v := .ref (h 4)) (C := RX6) (T := TX6) (N := 30) hx hb hC hH hts in_X6_copyLeaf_X6 hown F_9 rfl 4 (by decide) (hts (.fieldLink RX6 17 "LazyStateModel" "sizes" "[I") (by decide +kernel)) rfl dX6_copyLeaf_39 ?_
  refine lv_iload hx hb dX6_copyLeaf_42 (lv_at hl 1 rfl) ?_
  obtain ⟨g_10, hg_10, hp_10⟩ : okI G 0 8064 (fun g => ∀ L, L < 8064 → (g L).toInt ≤ 8) (f_8 (h 4)) := hI.1 4 (by decide)
  refine m_iald hx hb hC hH hg_10 (vp_in_iff.mpr ⟨by omega, by omega⟩) dX6_copyLeaf_44 ?_
  refine lv_topi (fun x_11 ex_11 => ?_)
  have qx_11 := hp_10 (x_2.toNatClampNeg) (ic_cl rfl (by omega) (by omega))
  rw [← ex_11] at qx_11
  refine m_iast hx hb hC hH hg_10 (vp_in_iff.mpr ⟨by omega, by omega⟩) dX6_copyLeaf_45 (fun H locs hH => ?_)
  obtain ⟨f_12, ef_12⟩ : ∃ zz_ : mF, zz_ = va_up f_8 (h 4) (some (.inl (gk G 0, 8064, .inl (upd g_10 x_4.toNatClampNeg x_11)))) := ⟨_, rfl⟩
  rw [← ef_12] at hH
  have F_13 := upk F_9 ef_12 (neM hj (by decide) (by decide) (by decide))
  have hI : IM G h n T z A f_12 := hI.arr 4 (by decide) (by decide) (by decide) (by decide) (show okI G 0 8064 (fun g => ∀ L, L < 8064 → (g L).toInt ≤ 8) _ from ⟨_, rfl, upd_all (P := fun x : Int32 => x.toInt ≤ 8) hp_10 (by omega)⟩) ef_12
  have hfr := hfr.up 4 (by decide) ef_12
  have hkp := hkp.up 4 hj (by decide) (by decide) ef_12
  refine lv_iconst (v := 0) hx hb dX6_copyLeaf_46 (by decide) ?_
  refine lv_istore (lv' := [(6, .int 0), (5, .int x_4), (4, .int x_2), (0, .ref (h 0)), (1, .int a), (2, .int b), (3, .int j)]) hx hb dX6_copyLeaf_47 hl (by decide) rfl (fun ls hl => ?_)
  have loop_49 : ∀ (fuel_ : Nat) (k6 : Int32) (fL : mF) (h0_ : 0 ≤ k6.toInt) (h1_ : k6.toInt ≤ 8) (hI : IM G h n T z A fL) (hfr : frM h f fL) (hkp : kpM h f fL) (_ : ((8 : Int) - k6.toInt).toNat < fuel_) (H : Heap) (locs : List Loc) (ls : Array Slot) (_ : mH G s fL H locs) (_ : lv_has ls 7 [(0, .ref (h 0)), (1, .int a), (2, .int b), (3, .int j), (4, .int x_2), (5, .int x_4), (6, .int k6)]), W p l e ({ frames := 0, cells := 0, slots := 0, locals := 0 } : Room) s m ([.ref (h 0), .int a, .int b, .int j] : List Value).toArray below meth c H locs 0 0 (MQ below (va_Qv (fun (u : mS) => IM G h n T z A u.2 ∧ frM h f u.2 ∧ kpM h f u.2) (fun (u : mS) t => mW G u.2 t) (mA G)) ([.ref (h 0), .int a, .int b, .int j] : List Value).toArray s 0 0 (mA G)) (F0 m 49 ls []) := by
    intro N_49
    induction N_49 with
    | zero => intro k6 fL h0_ h1_ hI hfr hkp hN; omega
    | succ N_49 ih_49 =>
      intro k6 fL h0_ h1_ hI hfr hkp hN_49 H locs ls hH hl
      refine lv_iload hx hb dX6_copyLeaf_49 (lv_at hl 6 rfl) ?_
      refine lv_bipush (v := 8) hx hb dX6_copyLeaf_51 (by decide) ?_
      refine lv_icmp_ge (tgt := 88) hx hb dX6_copyLeaf_53 (by decide) (fun c_14 => ?_) (fun c_14 => ?_)
      · skip
        have ic_14 : (8 : Int) ≤ k6.toInt := ic_le kI_8 rfl c_14
        exact m_vret hx hb hr hlk hC hH (fun _ => (0, 0)) ⟨hI, hfr, hkp⟩ (Nat.le_of_ble_eq_true rfl) (Nat.le_of_ble_eq_true rfl) dX6_copyLeaf_88
      · skip
        have ic_14 : (8 : Int) > k6.toInt := ic_nle kI_8 rfl c_14
        refine lv_aload_n hx hb dX6_copyLeaf_56 rfl (lv_at hl 0 rfl) ?_
        obtain ⟨he_15, fe_15, ca_15, ga_15, wh_15, tm_15, wm_15, ac_15, th_15, st_15, F_15, b1_15, b2_15, b3_15, b4_15, b5_15, b6_15, b7_15, b8_15⟩ : okM0 h n (fL (h 0)) := hI.1 0 (by decide)
        refine m_get (ci := 6) (v := .ref (h 5)) (C := RX6) (T := TX6) (N := 30) hx hb hC hH hts in_X6_copyLeaf_X6 hown F_15 rfl 5 (by decide) (hts (.fieldLink RX6 21 "LazyStateModel" "items" "[I") (by decide +kernel)) rfl dX6_copyLeaf_57 ?_
        refine lv_bipush (v := 8) hx hb dX6_copyLeaf_60 (by decide) ?_
        refine lv_iload hx hb dX6_copyLeaf_62 (lv_at hl 5 rfl) ?_
        refine lv_imul hx hb dX6_copyLeaf_64 ?_
        refine lv_topi (fun x_16 ex_16 => ?_)
        have ix_16 : x_16.toInt = 8 * x_4.toInt := ic_mul ex_16 kI_8 rfl (by omega) (by omega)
        refine lv_iload hx hb dX6_copyLeaf_65 (lv_at hl 6 rfl) ?_
        refine lv_iadd hx hb dX6_copyLeaf_67 ?_
        refine lv_topi (fun x_17 ex_17 => ?_)
        have ix_17 : x_17.toInt = x_16.toInt + k6.toInt := ic_add ex_17 rfl rfl (by omega) (by omega)
        refine lv_aload_n hx hb dX6_copyLeaf_68 rfl (lv_at hl 0 rfl) ?_
        refine m_get (ci := 6) (v := .ref (h 5)) (C := RX6) (T := TX6) (N := 30) hx hb hC hH hts in_X6_copyLeaf_X6 hown F_15 rfl 5 (by decide) (hts (.fieldLink RX6 21 "LazyStateModel" "items" "[I") (by decide +kernel)) rfl dX6_copyLeaf_69 ?_
        refine lv_bipush (v := 8) hx hb dX6_copyLeaf_72 (by decide) ?_
        refine lv_iload hx hb dX6_copyLeaf_74 (lv_at hl 4 rfl) ?_
        refine lv_imul hx hb dX6_copyLeaf_76 ?_
        refine lv_topi (fun x_18 ex_18 => ?_)
        have ix_18 : x_18.toInt = 8 * x_2.toInt := ic_mul ex_18 kI_8 rfl (by omega) (by omega)
        refine lv_iload hx hb dX6_copyLeaf_77 (lv_at hl 6 rfl) ?_
        refine lv_iadd hx hb dX6_copyLeaf_79 ?_
        refine lv_topi (fun x_19 ex_19 => ?_)
        have ix_19 : x_19.toInt = x_18.toInt + k6.toInt := ic_add ex_19 rfl rfl (by omega) (by omega)
        obtain ⟨g_20, hg_20, hp_20⟩ : okI G 0 64512 (fun _ => True) (fL (h 5)) := hI.1 5 (by decide)
        refine m_iald hx hb hC hH hg_20 (vp_in_iff.mpr ⟨by omega, by omega⟩) dX6_copyLeaf_80 ?_
        refine lv_topi (fun x_21 ex_21 => ?_)
        refine m_iast hx hb hC hH hg_20 (vp_in_iff.mpr ⟨by omega, by omega⟩) dX6_copyLeaf_81 (fun H locs hH => ?_)
        obtain ⟨f_22, ef_22⟩ : ∃ zz_ : mF, zz_ = va_up fL (h 5) (some (.inl (gk G 0, 64512, .inl (upd g_20 x_17.toNatClampNeg x_21)))) := ⟨_, rfl⟩
        rw [← ef_22] at hH
        have F_23 := upk F_15 ef_22 (neM hj (by decide) (by decide) (by decide))
        have hI : IM G h n T z A f_22 := hI.arr 5 (by decide) (by decide) (by decide) (by decide) (show okI G 0 64512 (fun _ => True) _ from ⟨_, rfl, trivial⟩) ef_22
        have hfr := hfr.up 5 (by decide) ef_22
        have hkp := hkp.up 5 hj (by decide) (by decide) ef_22
        obtain ⟨x_24, ex_24⟩ : ∃ y : Int32, y = k6 + 1 := ⟨_, rfl⟩
        have ix_24 : x_24.toInt = k6.toInt + 1 := ic_add ex_24 rfl kI_1 (by omega) (by omega)
        refine lv_iinc (v := x_24) (lv' := [(6, .int x_24), (0, .ref (h 0)), (1, .int a), (2, .int b), (3, .int j), (4, .int x_2), (5, .int x_4)]) hx hb dX6_copyLeaf_82 hl (k := 6) rfl (by rw [ex_24]; rfl) (by decide) rfl (fun ls hl => ?_)
        refine lv_goto (tgt := 49) hx hb dX6_copyLeaf_85 (by decide) ?_
        exact ih_49 x_24 f_22 (by omega) (by omega) hI hfr hkp (by omega) _ _ _ hH (lv_sub hl [1, 2, 3, 4, 5, 6, 0] rfl)
  exact loop_49 (((8 : Int) - 0).toNat + 1) 0 f_12 (by have := kI_0; omega) (by have := kI_0; omega) hI hfr hkp (by have := kI_0; omega) _ _ _ hH (lv_sub hl [3, 4, 5, 6, 2, 1, 0] rfl)
set_option maxHeartbeats 4000000 in
set_option maxRecDepth 100000 in
theorem c_X6_copyAll (l : Launch) (G : mG) (h : Nat → Nat) (n : Nat) (T : Nat → Int32) (z : Nat → Nat) (A : Nat → tA) (f : mF) (hI : IM G h n T z A f) (a b : Int32) (ha : 0 ≤ a.toInt ∧ a.toInt ≤ 41) (hb_ : 0 ≤ b.toInt ∧ b.toInt ≤ 41) : Met l yX6_copyAll wsX6_copyAll ({ frames := 1, cells := 0, slots := 0, locals := 26 }) (va_Pc [.ref (h 0), .int a, .int b] (mW G f)) (va_Qv (fun (u : mS) => IM G h n T z A u.2 ∧ frM h f u.2 ∧ kpM h f u.2) (fun (u : mS) t => mW G u.2 t) (mA G)) 0 0 (mA G) := by
  refine mMet [.ref (h 0), .int a, .int b] (cc := cX6_copyAll) (maxL := 4) (ret := none) (by decide) rfl (Nat.le_of_ble_eq_true rfl) ?_
  intro p e s m below meth c ls hx hb hr hml hts hown hlk hnm hC hH hl
  have hl : lv_has ls 4 [(0, .ref (h 0)), (1, .int a), (2, .int b)] := hl
  have hj := hI.2.2.1
  have hn24 := hI.2.2.2.1
  have nIn : (nI n).toInt = (n : Int) := nI_toInt (by omega)
  have hfr : frM h f f := frM.rf
  have hkp : kpM h f f := kpM.rf
  refine lv_iconst (v := 0) hx hb dX6_copyAll_0 (by decide) ?_
  refine lv_istore_n (lv' := [(3, .int 0), (0, .ref (h 0)), (1, .int a), (2, .int b)]) hx hb dX6_copyAll_1 rfl hl (by decide) rfl (fun ls hl => ?_)
  have loop_2 : ∀ (fuel_ : Nat) (k3 : Int32) (fL : mF) (h0_ : 0 ≤ k3.toInt) (h1_ : k3.toInt ≤ 192) (hI : IM G h n T z A fL) (hfr : frM h f fL) (hkp : kpM h f fL) (_ : ((192 : Int) - k3.toInt).toNat < fuel_) (H : Heap) (locs : List Loc) (ls : Array Slot) (_ : mH G s fL H locs) (_ : lv_has ls 4 [(0, .ref (h 0)), (1, .int a), (2, .int b), (3, .int k3)]), W p l e ({ frames := 1, cells := 0, slots := 0, locals := 26 } : Room) s m ([.ref (h 0), .int a, .int b] : List Value).toArray below meth c H locs 0 0 (MQ below (va_Qv (fun (u : mS) => IM G h n T z A u.2 ∧ frM h f u.2 ∧ kpM h f u.2) (fun (u : mS) t => mW G u.2 t) (mA G)) ([.ref (h 0), .int a, .int b] : List Value).toArray s 0 0 (mA G)) (F0 m 2 ls []) := by
    intro N_2
    induction N_2 with
    | zero => intro k3 fL h0_ h1_ hI hfr hkp hN; omega
    | succ N_2 ih_2 =>
      intro k3 fL h0_ h1_ hI hfr hkp hN_2 H locs ls hH hl
      refine lv_iload_n hx hb dX6_copyAll_2 rfl (lv_at hl 3 rfl) ?_
      refine lv_sipush (v := 192) hx hb dX6_copyAll_3 (by decide) ?_
      refine lv_icmp_ge (tgt := 22) hx hb dX6_copyAll_6 (by decide) (fun c_1 => ?_) (fun c_1 => ?_)
      · skip
        have ic_1 : (192 : Int) ≤ k3.toInt := ic_le kI_192 rfl c_1
        exact m_vret hx hb hr hlk hC hH (fun _ => (0, 0)) ⟨hI, hfr, hkp⟩ (Nat.le_of_ble_eq_true rfl) (Nat.le_of_ble_eq_true rfl) dX6_copyAll_22
      · skip
        have ic_1 : (192 : Int) > k3.toInt := ic_nle kI_192 rfl c_1
        refine lv_aload_n hx hb dX6_copyAll_9 rfl (lv_at hl 0 rfl) ?_
        refine lv_iload_n hx hb dX6_copyAll_10 rfl (lv_at hl 1 rfl) ?_
        refine lv_iload_n hx hb dX6_copyAll_11 rfl (lv_at hl 2 rfl) ?_
        refine lv_iload_n hx hb dX6_copyAll_12 rfl (lv_at hl 3 rfl) ?_
        obtain ⟨he_2, fe_2, ca_2, ga_2, wh_2, tm_2, wm_2, ac_2, th_2, st_2, F_2, b1_2, b2_2, b3_2, b4_2, b5_2, b6_2, b7_2, b8_2⟩ : okM0 h n (fL (h 0)) := hI.1 0 (by decide)
        refine m_gov hH (va_runV (As := [.int a, .int b, .int k3]) (rest := []) ⟨hx, hb, hml, hown, hts⟩ (c_X6_copyLeaf l G h n T z A fL hI a b k3 (by omega) (by omega) (by omega)) (cwV 3 hts gX6_copyAll_X6_copyLeaf rfl rfl rfl (by decide +kernel) ⟨Nat.le_of_ble_eq_true rfl, Nat.le_of_ble_eq_true rfl⟩) (m_preV (ci := 6) hC hH F_2 rfl) rfl rfl hl.1 rfl (lv_room (Nat.le_of_ble_eq_true rfl)) dX6_copyAll_13 ⟨Nat.le_of_ble_eq_true rfl, Nat.le_of_ble_eq_true rfl⟩) (fun rho_5 f_4 H locs hw hH => ?_)
        obtain ⟨hI, hfr1, hkp1⟩ := hw
        have hI : IM G h n T z A f_4 := hI
        have hfr1 : frM h fL f_4 := hfr1
        have hkp1 : kpM h fL f_4 := hkp1
        have hfr := hfr.trans hfr1
        have hkp := hkp.trans hkp1
        obtain ⟨he_6, fe_6, ca_6, ga_6, wh_6, tm_6, wm_6, ac_6, th_6, st_6, F_6, b1_6, b2_6, b3_6, b4_6, b5_6, b6_6, b7_6, b8_6⟩ : okM0 h n (f_4 (h 0)) := hI.1 0 (by decide)
        have kk_wm_6 : wm_6.toInt = wm_2.toInt := (congrArg Int32.toInt (show wm_6 = wm_2 from Value.int.inj (by have q := hkp1.1; rw [fldV_eq F_6, fldV_eq F_2] at q; exact q))).trans rfl
        have kk_ac_6 : ac_6.toInt = ac_2.toInt := (congrArg Int32.toInt (show ac_6 = ac_2 from Value.int.inj (by have q := hkp1.2.1; rw [fldV_eq F_6, fldV_eq F_2] at q; exact q))).trans rfl
        have kk_he_6 : he_6.toInt = he_2.toInt := (congrArg Int32.toInt (show he_6 = he_2 from Value.int.inj (by have q := hkp1.2.2; rw [fldV_eq F_6, fldV_eq F_2] at q; exact q))).trans rfl
        obtain ⟨x_7, ex_7⟩ : ∃ y : Int32, y = k3 + 1 := ⟨_, rfl⟩
        have ix_7 : x_7.toInt = k3.toInt + 1 := ic_add ex_7 rfl kI_1 (by omega) (by omega)
        refine lv_iinc (v := x_7) (lv' := [(3, .int x_7), (0, .ref (h 0)), (1, .int a), (2, .int b)]) hx hb dX6_copyAll_16 hl (k := 3) rfl (by rw [ex_7]; rfl) (by decide) rfl (fun ls hl => ?_)
        refine lv_goto (tgt := 2) hx hb dX6_copyAll_19 (by decide) ?_
        exact ih_2 x_7 f_4 (by omega) (by omega) hI hfr hkp (by omega) _ _ _ hH (lv_sub hl [1, 2, 3, 0] rfl)
  exact loop_2 (((192 : Int) - 0).toNat + 1) 0 f (by have := kI_0; omega) (by have := kI_0; omega) hI hfr hkp (by have := kI_0; omega) _ _ _ hH (lv_sub hl [1, 2, 3, 0] rfl)
set_option maxHeartbeats 4000000 in
set_option maxRecDepth 100000 in
theorem c_X6_areAlike (l : Launch) (G : mG) (h : Nat → Nat) (n : Nat) (T : Nat → Int32) (z : Nat → Nat) (A : Nat → tA) (f : mF) (hI : IM G h n T z A f) (a b : Int32) (ha : 0 ≤ a.toInt ∧ a.toInt < 8064) (hb_ : 0 ≤ b.toInt ∧ b.toInt < 8064) : Met l yX6_areAlike wsX6_areAlike ({ frames := 0, cells := 0, slots := 0, locals := 0 }) (va_Pc [.ref (h 0), .int a, .int b] (mW G f)) (va_Qi (fun (r : Int32) (u : mS) => u.2 = f ∧ (r.toInt = 0 ∨ r.toInt = 1)) (fun (u : mS) t => mW G u.2 t) (mA G)) 0 0 (mA G) := by
  refine mMet [.ref (h 0), .int a, .int b] (cc := cX6_areAlike) (maxL := 5) (ret := (some .boolean)) (by decide) rfl (Nat.le_of_ble_eq_true rfl) ?_
  intro p e s m below meth c ls hx hb hr hml hts hown hlk hnm hC hH hl
  have hl : lv_has ls 5 [(0, .ref (h 0)), (1, .int a), (2, .int b)] := hl
  have hj := hI.2.2.1
  have hn24 := hI.2.2.2.1
  have nIn : (nI n).toInt = (n : Int) := nI_toInt (by omega)
  have hfr : frM h f f := frM.rf
  have hkp : kpM h f f := kpM.rf
  refine lv_aload_n hx hb dX6_areAlike_0 rfl (lv_at hl 0 rfl) ?_
  obtain ⟨he_1, fe_1, ca_1, ga_1, wh_1, tm_1, wm_1, ac_1, th_1, st_1, F_1, b1_1, b2_1, b3_1, b4_1, b5_1, b6_1, b7_1, b8_1⟩ : okM0 h n (f (h 0)) := hI.1 0 (by decide)
  refine m_get (ci := 6) (v := .ref (h 3)) (C := RX6) (T := TX6) (N := 30) hx hb hC hH hts in_X6_areAlike_X6 hown F_1 rfl 3 (by decide) (hts (.fieldLink RX6 13 "LazyStateModel" "numbers" "[J") (by decide +kernel)) rfl dX6_areAlike_1 ?_
  refine lv_iload_n hx hb dX6_areAlike_4 rfl (lv_at hl 1 rfl) ?_
  obtain ⟨g_2, hg_2, hp_2⟩ : okJ G 8064 (pNu n T) (f (h 3)) := hI.1 3 (by decide)
  refine m_lald hx hb hC hH hg_2 (vp_in_iff.mpr ⟨by omega, by omega⟩) dX6_areAlike_5 ?_
  refine lv_topl (fun y_3 ey_3 => ?_)
  refine lv_aload_n hx hb dX6_areAlike_6 rfl (lv_at hl 0 rfl) ?_
  refine m_get (ci := 6) (v := .ref (h 3)) (C := RX6) (T := TX6) (N := 30) hx hb hC hH hts in_X6_areAlike_X6 hown F_1 rfl 3 (by decide) (hts (.fieldLink RX6 13 "LazyStateModel" "numbers" "[J") (by decide +kernel)) rfl dX6_areAlike_7 ?_
  refine lv_iload_n hx hb dX6_areAlike_10 rfl (lv_at hl 2 rfl) ?_
  refine m_lald hx hb hC hH hg_2 (vp_in_iff.mpr ⟨by omega, by omega⟩) dX6_areAlike_11 ?_
  refine lv_topl (fun y_4 ey_4 => ?_)
  refine W.lcmp hx hb dX6_areAlike_12 ?_
  refine lv_if_ne (tgt := 35) hx hb dX6_areAlike_13 (by decide) (fun c_5 => ?_) (fun c_5 => ?_)
  · skip
    have ic_5 : (y_3.toInt : Int) ≠ y_4.toInt := lc_ne rfl rfl (fun q_ => c_5 ((lg_cmp_eq _ _).mpr q_))
    refine lv_iconst (v := 0) hx hb dX6_areAlike_35 (by decide) ?_
    refine lv_istore_n (lv' := [(3, .int 0), (0, .ref (h 0)), (1, .int a), (2, .int b)]) hx hb dX6_areAlike_36 rfl hl (by decide) rfl (fun ls hl => ?_)
    refine lv_iconst (v := 0) hx hb dX6_areAlike_37 (by decide) ?_
    refine lv_istore (lv' := [(4, .int 0), (3, .int 0), (0, .ref (h 0)), (1, .int a), (2, .int b)]) hx hb dX6_areAlike_38 hl (by decide) rfl (fun ls hl => ?_)
    have loop_40 : ∀ (fuel_ : Nat) (b3 : Int32) (k4 : Int32) (h0_ : 0 ≤ k4.toInt) (h1_ : k4.toInt ≤ 8) (hb3 : b3.toInt = 0 ∨ b3.toInt = 1) (_ : ((8 : Int) - k4.toInt).toNat < fuel_) (H : Heap) (locs : List Loc) (ls : Array Slot) (_ : mH G s f H locs) (_ : lv_has ls 5 [(0, .ref (h 0)), (1, .int a), (2, .int b), (3, .int b3), (4, .int k4)]), W p l e ({ frames := 0, cells := 0, slots := 0, locals := 0 } : Room) s m ([.ref (h 0), .int a, .int b] : List Value).toArray below meth c H locs 0 0 (MQ below (va_Qi (fun (r : Int32) (u : mS) => u.2 = f ∧ (r.toInt = 0 ∨ r.toInt = 1)) (fun (u : mS) t => mW G u.2 t) (mA G)) ([.ref (h 0), .int a, .int b] : List Value).toArray s 0 0 (mA G)) (F0 m 40 ls []) := by
      intro N_40
      induction N_40 with
      | zero => intro b3 k4 h0_ h1_ hb3 hN; omega
      | succ N_40 ih_40 =>
        intro b3 k4 h0_ h1_ hb3 hN_40 H locs ls hH hl
        refine lv_iload hx hb dX6_areAlike_40 (lv_at hl 4 rfl) ?_
        refine lv_aload_n hx hb dX6_areAlike_42 rfl (lv_at hl 0 rfl) ?_
        refine m_get (ci := 6) (v := .ref (h 4)) (C := RX6) (T := TX6) (N := 30) hx hb hC hH hts in_X6_areAlike_X6 hown F_1 rfl 4 (by decide) (hts (.fieldLink RX6 17 "LazyStateModel" "sizes" "[I") (by decide +kernel)) rfl dX6_areAlike_43 ?_
        refine lv_iload_n hx hb dX6_areAlike_46 rfl (lv_at hl 1 rfl) ?_
        obtain ⟨g_6, hg_6, hp_6⟩ : okI G 0 8064 (fun g => ∀ L, L < 8064 → (g L).toInt ≤ 8) (f (h 4)) := hI.1 4 (by decide)
        refine m_iald hx hb hC hH hg_6 (vp_in_iff.mpr ⟨by omega, by omega⟩) dX6_areAlike_47 ?_
        refine lv_topi (fun x_7 ex_7 => ?_)
        have qx_7 := hp_6 (a.toNatClampNeg) (ic_cl rfl (by omega) (by omega))
        rw [← ex_7] at qx_7
        refine lv_icmp_ge (tgt := 94) hx hb dX6_areAlike_48 (by decide) (fun c_8 => ?_) (fun c_8 => ?_)
        · skip
          have ic_8 : (x_7.toInt : Int) ≤ k4.toInt := ic_le rfl rfl c_8
          refine lv_iload_n hx hb dX6_areAlike_94 rfl (lv_at hl 3 rfl) ?_
          exact m_zret (v := b3) hx hb hr (ic_nar _ (by omega)) hlk hC hH (fun _ => (0, 0)) ⟨rfl, by omega⟩ (Nat.le_of_ble_eq_true rfl) (Nat.le_of_ble_eq_true rfl) dX6_areAlike_95
        · skip
          have ic_8 : (x_7.toInt : Int) > k4.toInt := ic_nle rfl rfl c_8
          refine lv_iload_n hx hb dX6_areAlike_51 rfl (lv_at hl 3 rfl) ?_
          refine lv_if_eq (tgt := 94) hx hb dX6_areAlike_52 (by decide) (fun c_9 => ?_) (fun c_9 => ?_)
          · skip
            have ic_9 : (b3.toInt : Int) = 0 := ic_eq rfl kI_0 c_9
            refine lv_iload_n hx hb dX6_areAlike_94 rfl (lv_at hl 3 rfl) ?_
            exact m_zret (v := b3) hx hb hr (ic_nar _ (by omega)) hlk hC hH (fun _ => (0, 0)) ⟨rfl, by omega⟩ (Nat.le_of_ble_eq_true rfl) (Nat.le_of_ble_eq_true rfl) dX6_areAlike_95
          · skip
            have ic_9 : (b3.toInt : Int) ≠ 0 := ic_ne rfl kI_0 c_9
            refine lv_aload_n hx hb dX6_areAlike_55 rfl (lv_at hl 0 rfl) ?_
            refine m_get (ci := 6) (v := .ref (h 5)) (C := RX6) (T := TX6) (N := 30) hx hb hC hH hts in_X6_areAlike_X6 hown F_1 rfl 5 (by decide) (hts (.fieldLink RX6 21 "LazyStateModel" "items" "[I") (by decide +kernel)) rfl dX6_areAlike_56 ?_
            refine lv_bipush (v := 8) hx hb dX6_areAlike_59 (by decide) ?_
            refine lv_iload_n hx hb dX6_areAlike_61 rfl (lv_at hl 1 rfl) ?_
            refine lv_imul hx hb dX6_areAlike_62 ?_
            refine lv_topi (fun x_10 ex_10 => ?_)
            have ix_10 : x_10.toInt = 8 * a.toInt := ic_mul ex_10 kI_8 rfl (by omega) (by omega)
            refine lv_iload hx hb dX6_areAlike_63 (lv_at hl 4 rfl) ?_
            refine lv_iadd hx hb dX6_areAlike_65 ?_
            refine lv_topi (fun x_11 ex_11 => ?_)
            have ix_11 : x_11.toInt = x_10.toInt + k4.toInt := ic_add ex_11 rfl rfl (by omega) (by omega)
            obtain ⟨g_12, hg_12, hp_12⟩ : okI G 0 64512 (fun _ => True) (f (h 5)) := hI.1 5 (by decide)
            refine m_iald hx hb hC hH hg_12 (vp_in_iff.mpr ⟨by omega, by omega⟩) dX6_areAlike_66 ?_
            refine lv_topi (fun x_13 ex_13 => ?_)
            refine lv_aload_n hx hb dX6_areAlike_67 rfl (lv_at hl 0 rfl) ?_
            refine m_get (ci := 6) (v := .ref (h 5)) (C := RX6) (T := TX6) (N := 30) hx hb hC hH hts in_X6_areAlike_X6 hown F_1 rfl 5 (by decide) (hts (.fieldLink RX6 21 "LazyStateModel" "items" "[I") (by decide +kernel)) rfl dX6_areAlike_68 ?_
            refine lv_bipush (v := 8) hx hb dX6_areAlike_71 (by decide) ?_
            refine lv_iload_n hx hb dX6_areAlike_73 rfl (lv_at hl 2 rfl) ?_
            refine lv_imul hx hb dX6_areAlike_74 ?_
            refine lv_topi (fun x_14 ex_14 => ?_)
            have ix_14 : x_14.toInt = 8 * b.toInt := ic_mul ex_14 kI_8 rfl (by omega) (by omega)
            refine lv_iload hx hb dX6_areAlike_75 (lv_at hl 4 rfl) ?_
            refine lv_iadd hx hb dX6_areAlike_77 ?_
            refine lv_topi (fun x_15 ex_15 => ?_)
            have ix_15 : x_15.toInt = x_14.toInt + k4.toInt := ic_add ex_15 rfl rfl (by omega) (by omega)
            refine m_iald hx hb hC hH hg_12 (vp_in_iff.mpr ⟨by omega, by omega⟩) dX6_areAlike_78 ?_
            refine lv_topi (fun x_16 ex_16 => ?_)
            refine lv_icmp_ne (tgt := 86) hx hb dX6_areAlike_79 (by decide) (fun c_17 => ?_) (fun c_17 => ?_)
            · skip
              have ic_17 : (x_13.toInt : Int) ≠ x_16.toInt := ic_ne rfl rfl c_17
              refine lv_iconst (v := 0) hx hb dX6_areAlike_86 (by decide) ?_
              refine lv_istore_n (lv' := [(3, .int 0), (0, .ref (h 0)), (1, .int a), (2, .int b), (4, .int k4)]) hx hb dX6_areAlike_87 rfl hl (by decide) rfl (fun ls hl => ?_)
              obtain ⟨x_18, ex_18⟩ : ∃ y : Int32, y = k4 + 1 := ⟨_, rfl⟩
              have ix_18 : x_18.toInt = k4.toInt + 1 := ic_add ex_18 rfl kI_1 (by omega) (by omega)
              refine lv_iinc (v := x_18) (lv' := [(4, .int x_18), (3, .int 0), (0, .ref (h 0)), (1, .int a), (2, .int b)]) hx hb dX6_areAlike_88 hl (k := 4) rfl (by rw [ex_18]; rfl) (by decide) rfl (fun ls hl => ?_)
              refine lv_goto (tgt := 40) hx hb dX6_areAlike_91 (by decide) ?_
              exact ih_40 0 x_18 (by have := kI_0; omega) (by have := kI_0; omega) (by have := kI_0; omega) (by have := kI_0; omega) _ _ _ hH (lv_sub hl [2, 3, 4, 1, 0] rfl)
            · skip
              have ic_17 : (x_13.toInt : Int) = x_16.toInt := ic_eq rfl rfl c_17
              refine lv_iconst (v := 1) hx hb dX6_areAlike_82 (by decide) ?_
              refine lv_goto (tgt := 87) hx hb dX6_areAlike_83 (by decide) ?_
              refine lv_istore_n (lv' := [(3, .int 1), (0, .ref (h 0)), (1, .int a), (2, .int b), (4, .int k4)]) hx hb dX6_areAlike_87 rfl hl (by decide) rfl (fun ls hl => ?_)
              obtain ⟨x_19, ex_19⟩ : ∃ y : Int32, y = k4 + 1 := ⟨_, rfl⟩
              have ix_19 : x_19.toInt = k4.toInt + 1 := ic_add ex_19 rfl kI_1 (by omega) (by omega)
              refine lv_iinc (v := x_19) (lv' := [(4, .int x_19), (3, .int 1), (0, .ref (h 0)), (1, .int a), (2, .int b)]) hx hb dX6_areAlike_88 hl (k := 4) rfl (by rw [ex_19]; rfl) (by decide) rfl (fun ls hl => ?_)
              refine lv_goto (tgt := 40) hx hb dX6_areAlike_91 (by decide) ?_
              exact ih_40 1 x_19 (by have := kI_1; omega) (by have := kI_1; omega) (by have := kI_1; omega) (by have := kI_1; omega) _ _ _ hH (lv_sub hl [2, 3, 4, 1, 0] rfl)
    exact loop_40 (((8 : Int) - 0).toNat + 1) 0 0 (by have := kI_0; have := kI_0; omega) (by have := kI_0; have := kI_0; omega) (by have := kI_0; have := kI_0; omega) (by have := kI_0; have := kI_0; omega) _ _ _ hH (lv_sub hl [2, 3, 4, 1, 0] rfl)
  · skip
    have ic_5 : (y_3.toInt : Int) = y_4.toInt := lc_eq rfl rfl ((lg_cmp_eq _ _).mp c_5)
    refine lv_aload_n hx hb dX6_areAlike_16 rfl (lv_at hl 0 rfl) ?_
    refine m_get (ci := 6) (v := .ref (h 4)) (C := RX6) (T := TX6) (N := 30) hx hb hC hH hts in_X6_areAlike_X6 hown F_1 rfl 4 (by decide) (hts (.fieldLink RX6 17 "LazyStateModel" "sizes" "[I") (by decide +kernel)) rfl dX6_areAlike_17 ?_
    refine lv_iload_n hx hb dX6_areAlike_20 rfl (lv_at hl 1 rfl) ?_
    obtain ⟨g_20, hg_20, hp_20⟩ : okI G 0 8064 (fun g => ∀ L, L < 8064 → (g L).toInt ≤ 8) (f (h 4)) := hI.1 4 (by decide)
    refine m_iald hx hb hC hH hg_20 (vp_in_iff.mpr ⟨by omega, by omega⟩) dX6_areAlike_21 ?_
    refine lv_topi (fun x_21 ex_21 => ?_)
    have qx_21 := hp_20 (a.toNatClampNeg) (ic_cl rfl (by omega) (by omega))
    rw [← ex_21] at qx_21
    refine lv_aload_n hx hb dX6_areAlike_22 rfl (lv_at hl 0 rfl) ?_
    refine m_get (ci := 6) (v := .ref (h 4)) (C := RX6) (T := TX6) (N := 30) hx hb hC hH hts in_X6_areAlike_X6 hown F_1 rfl 4 (by decide) (hts (.fieldLink RX6 17 "LazyStateModel" "sizes" "[I") (by decide +kernel)) rfl dX6_areAlike_23 ?_
    refine lv_iload_n hx hb dX6_areAlike_26 rfl (lv_at hl 2 rfl) ?_
    refine m_iald hx hb hC hH hg_20 (vp_in_iff.mpr ⟨by omega, by omega⟩) dX6_areAlike_27 ?_
    refine lv_topi (fun x_22 ex_22 => ?_)
    have qx_22 := hp_20 (b.toNatClampNeg) (ic_cl rfl (by omega) (by omega))
    rw [← ex_22] at qx_22
    refine lv_icmp_ne (tgt := 35) hx hb dX6_areAlike_28 (by decide) (fun c_23 => ?_) (fun c_23 => ?_)
    · skip
      have ic_23 : (x_21.toInt : Int) ≠ x_22.toInt := ic_ne rfl rfl c_23
      refine lv_iconst (v := 0) hx hb dX6_areAlike_35 (by decide) ?_
      refine lv_istore_n (lv' := [(3, .int 0), (0, .ref (h 0)), (1, .int a), (2, .int b)]) hx hb dX6_areAlike_36 rfl hl (by decide) rfl (fun ls hl => ?_)
      refine lv_iconst (v := 0) hx hb dX6_areAlike_37 (by decide) ?_
      refine lv_istore (lv' := [(4, .int 0), (3, .int 0), (0, .ref (h 0)), (1, .int a), (2, .int b)]) hx hb dX6_areAlike_38 hl (by decide) rfl (fun ls hl => ?_)
      have loop_40 : ∀ (fuel_ : Nat) (b3 : Int32) (k4 : Int32) (h0_ : 0 ≤ k4.toInt) (h1_ : k4.toInt ≤ 8) (hb3 : b3.toInt = 0 ∨ b3.toInt = 1) (_ : ((8 : Int) - k4.toInt).toNat < fuel_) (H : Heap) (locs : List Loc) (ls : Array Slot) (_ : mH G s f H locs) (_ : lv_has ls 5 [(0, .ref (h 0)), (1, .int a), (2, .int b), (3, .int b3), (4, .int k4)]), W p l e ({ frames := 0, cells := 0, slots := 0, locals := 0 } : Room) s m ([.ref (h 0), .int a, .int b] : List Value).toArray below meth c H locs 0 0 (MQ below (va_Qi (fun (r : Int32) (u : mS) => u.2 = f ∧ (r.toInt = 0 ∨ r.toInt = 1)) (fun (u : mS) t => mW G u.2 t) (mA G)) ([.ref (h 0), .int a, .int b] : List Value).toArray s 0 0 (mA G)) (F0 m 40 ls []) := by
        intro N_40
        induction N_40 with
        | zero => intro b3 k4 h0_ h1_ hb3 hN; omega
        | succ N_40 ih_40 =>
          intro b3 k4 h0_ h1_ hb3 hN_40 H locs ls hH hl
          refine lv_iload hx hb dX6_areAlike_40 (lv_at hl 4 rfl) ?_
          refine lv_aload_n hx hb dX6_areAlike_42 rfl (lv_at hl 0 rfl) ?_
          refine m_get (ci := 6) (v := .ref (h 4)) (C := RX6) (T := TX6) (N := 30) hx hb hC hH hts in_X6_areAlike_X6 hown F_1 rfl 4 (by decide) (hts (.fieldLink RX6 17 "LazyStateModel" "sizes" "[I") (by decide +kernel)) rfl dX6_areAlike_43 ?_
          refine lv_iload_n hx hb dX6_areAlike_46 rfl (lv_at hl 1 rfl) ?_
          refine m_iald hx hb hC hH hg_20 (vp_in_iff.mpr ⟨by omega, by omega⟩) dX6_areAlike_47 ?_
          refine lv_topi (fun x_24 ex_24 => ?_)
          have qx_24 := hp_20 (a.toNatClampNeg) (ic_cl rfl (by omega) (by omega))
          rw [← ex_24] at qx_24
          refine lv_icmp_ge (tgt := 94) hx hb dX6_areAlike_48 (by decide) (fun c_25 => ?_) (fun c_25 => ?_)
          · skip
            have ic_25 : (x_24.toInt : Int) ≤ k4.toInt := ic_le rfl rfl c_25
            refine lv_iload_n hx hb dX6_areAlike_94 rfl (lv_at hl 3 rfl) ?_
            exact m_zret (v := b3) hx hb hr (ic_nar _ (by omega)) hlk hC hH (fun _ => (0, 0)) ⟨rfl, by omega⟩ (Nat.le_of_ble_eq_true rfl) (Nat.le_of_ble_eq_true rfl) dX6_areAlike_95
          · skip
            have ic_25 : (x_24.toInt : Int) > k4.toInt := ic_nle rfl rfl c_25
            refine lv_iload_n hx hb dX6_areAlike_51 rfl (lv_at hl 3 rfl) ?_
            refine lv_if_eq (tgt := 94) hx hb dX6_areAlike_52 (by decide) (fun c_26 => ?_) (fun c_26 => ?_)
            · skip
              have ic_26 : (b3.toInt : Int) = 0 := ic_eq rfl kI_0 c_26
              refine lv_iload_n hx hb dX6_areAlike_94 rfl (lv_at hl 3 rfl) ?_
              exact m_zret (v := b3) hx hb hr (ic_nar _ (by omega)) hlk hC hH (fun _ => (0, 0)) ⟨rfl, by omega⟩ (Nat.le_of_ble_eq_true rfl) (Nat.le_of_ble_eq_true rfl) dX6_areAlike_95
            · skip
              have ic_26 : (b3.toInt : Int) ≠ 0 := ic_ne rfl kI_0 c_26
              refine lv_aload_n hx hb dX6_areAlike_55 rfl (lv_at hl 0 rfl) ?_
              refine m_get (ci := 6) (v := .ref (h 5)) (C := RX6) (T := TX6) (N := 30) hx hb hC hH hts in_X6_areAlike_X6 hown F_1 rfl 5 (by decide) (hts (.fieldLink RX6 21 "LazyStateModel" "items" "[I") (by decide +kernel)) rfl dX6_areAlike_56 ?_
              refine lv_bipush (v := 8) hx hb dX6_areAlike_59 (by decide) ?_
              refine lv_iload_n hx hb dX6_areAlike_61 rfl (lv_at hl 1 rfl) ?_
              refine lv_imul hx hb dX6_areAlike_62 ?_
              refine lv_topi (fun x_27 ex_27 => ?_)
              have ix_27 : x_27.toInt = 8 * a.toInt := ic_mul ex_27 kI_8 rfl (by omega) (by omega)
              refine lv_iload hx hb dX6_areAlike_63 (lv_at hl 4 rfl) ?_
              refine lv_iadd hx hb dX6_areAlike_65 ?_
              refine lv_topi (fun x_28 ex_28 => ?_)
              have ix_28 : x_28.toInt = x_27.toInt + k4.toInt := ic_add ex_28 rfl rfl (by omega) (by omega)
              obtain ⟨g_29, hg_29, hp_29⟩ : okI G 0 64512 (fun _ => True) (f (h 5)) := hI.1 5 (by decide)
              refine m_iald hx hb hC hH hg_29 (vp_in_iff.mpr ⟨by omega, by omega⟩) dX6_areAlike_66 ?_
              refine lv_topi (fun x_30 ex_30 => ?_)
              refine lv_aload_n hx hb dX6_areAlike_67 rfl (lv_at hl 0 rfl) ?_
              refine m_get (ci := 6) (v := .ref (h 5)) (C := RX6) (T := TX6) (N := 30) hx hb hC hH hts in_X6_areAlike_X6 hown F_1 rfl 5 (by decide) (hts (.fieldLink RX6 21 "LazyStateModel" "items" "[I") (by decide +kernel)) rfl dX6_areAlike_68 ?_
              refine lv_bipush (v := 8) hx hb dX6_areAlike_71 (by decide) ?_
              refine lv_iload_n hx hb dX6_areAlike_73 rfl (lv_at hl 2 rfl) ?_
              refine lv_imul hx hb dX6_areAlike_74 ?_
              refine lv_topi (fun x_31 ex_31 => ?_)
              have ix_31 : x_31.toInt = 8 * b.toInt := ic_mul ex_31 kI_8 rfl (by omega) (by omega)
              refine lv_iload hx hb dX6_areAlike_75 (lv_at hl 4 rfl) ?_
              refine lv_iadd hx hb dX6_areAlike_77 ?_
              refine lv_topi (fun x_32 ex_32 => ?_)
              have ix_32 : x_32.toInt = x_31.toInt + k4.toInt := ic_add ex_32 rfl rfl (by omega) (by omega)
              refine m_iald hx hb hC hH hg_29 (vp_in_iff.mpr ⟨by omega, by omega⟩) dX6_areAlike_78 ?_
              refine lv_topi (fun x_33 ex_33 => ?_)
              refine lv_icmp_ne (tgt := 86) hx hb dX6_areAlike_79 (by decide) (fun c_34 => ?_) (fun c_34 => ?_)
              · skip
                have ic_34 : (x_30.toInt : Int) ≠ x_33.toInt := ic_ne rfl rfl c_34
                refine lv_iconst (v := 0) hx hb dX6_areAlike_86 (by decide) ?_
                refine lv_istore_n (lv' := [(3, .int 0), (0, .ref (h 0)), (1, .int a), (2, .int b), (4, .int k4)]) hx hb dX6_areAlike_87 rfl hl (by decide) rfl (fun ls hl => ?_)
                obtain ⟨x_35, ex_35⟩ : ∃ y : Int32, y = k4 + 1 := ⟨_, rfl⟩
                have ix_35 : x_35.toInt = k4.toInt + 1 := ic_add ex_35 rfl kI_1 (by omega) (by omega)
                refine lv_iinc (v := x_35) (lv' := [(4, .int x_35), (3, .int 0), (0, .ref (h 0)), (1, .int a), (2, .int b)]) hx hb dX6_areAlike_88 hl (k := 4) rfl (by rw [ex_35]; rfl) (by decide) rfl (fun ls hl => ?_)
                refine lv_goto (tgt := 40) hx hb dX6_areAlike_91 (by decide) ?_
                exact ih_40 0 x_35 (by have := kI_0; omega) (by have := kI_0; omega) (by have := kI_0; omega) (by have := kI_0; omega) _ _ _ hH (lv_sub hl [2, 3, 4, 1, 0] rfl)
              · skip
                have ic_34 : (x_30.toInt : Int) = x_33.toInt := ic_eq rfl rfl c_34
                refine lv_iconst (v := 1) hx hb dX6_areAlike_82 (by decide) ?_
                refine lv_goto (tgt := 87) hx hb dX6_areAlike_83 (by decide) ?_
                refine lv_istore_n (lv' := [(3, .int 1), (0, .ref (h 0)), (1, .int a), (2, .int b), (4, .int k4)]) hx hb dX6_areAlike_87 rfl hl (by decide) rfl (fun ls hl => ?_)
                obtain ⟨x_36, ex_36⟩ : ∃ y : Int32, y = k4 + 1 := ⟨_, rfl⟩
                have ix_36 : x_36.toInt = k4.toInt + 1 := ic_add ex_36 rfl kI_1 (by omega) (by omega)
                refine lv_iinc (v := x_36) (lv' := [(4, .int x_36), (3, .int 1), (0, .ref (h 0)), (1, .int a), (2, .int b)]) hx hb dX6_areAlike_88 hl (k := 4) rfl (by rw [ex_36]; rfl) (by decide) rfl (fun ls hl => ?_)
                refine lv_goto (tgt := 40) hx hb dX6_areAlike_91 (by decide) ?_
                exact ih_40 1 x_36 (by have := kI_1; omega) (by have := kI_1; omega) (by have := kI_1; omega) (by have := kI_1; omega) _ _ _ hH (lv_sub hl [2, 3, 4, 1, 0] rfl)
      exact loop_40 (((8 : Int) - 0).toNat + 1) 0 0 (by have := kI_0; have := kI_0; omega) (by have := kI_0; have := kI_0; omega) (by have := kI_0; have := kI_0; omega) (by have := kI_0; have := kI_0; omega) _ _ _ hH (lv_sub hl [2, 3, 4, 1, 0] rfl)
    · skip
      have ic_23 : (x_21.toInt : Int) = x_22.toInt := ic_eq rfl rfl c_23
      refine lv_iconst (v := 1) hx hb dX6_areAlike_31 (by decide) ?_
      refine lv_goto (tgt := 36) hx hb dX6_areAlike_32 (by decide) ?_
      refine lv_istore_n (lv' := [(3, .int 1), (0, .ref (h 0)), (1, .int a), (2, .int b)]) hx hb dX6_areAlike_36 rfl hl (by decide) rfl (fun ls hl => ?_)
      refine lv_iconst (v := 0) hx hb dX6_areAlike_37 (by decide) ?_
      refine lv_istore (lv' := [(4, .int 0), (3, .int 1), (0, .ref (h 0)), (1, .int a), (2, .int b)]) hx hb dX6_areAlike_38 hl (by decide) rfl (fun ls hl => ?_)
      have loop_40 : ∀ (fuel_ : Nat) (b3 : Int32) (k4 : Int32) (h0_ : 0 ≤ k4.toInt) (h1_ : k4.toInt ≤ 8) (hb3 : b3.toInt = 0 ∨ b3.toInt = 1) (_ : ((8 : Int) - k4.toInt).toNat < fuel_) (H : Heap) (locs : List Loc) (ls : Array Slot) (_ : mH G s f H locs) (_ : lv_has ls 5 [(0, .ref (h 0)), (1, .int a), (2, .int b), (3, .int b3), (4, .int k4)]), W p l e ({ frames := 0, cells := 0, slots := 0, locals := 0 } : Room) s m ([.ref (h 0), .int a, .int b] : List Value).toArray below meth c H locs 0 0 (MQ below (va_Qi (fun (r : Int32) (u : mS) => u.2 = f ∧ (r.toInt = 0 ∨ r.toInt = 1)) (fun (u : mS) t => mW G u.2 t) (mA G)) ([.ref (h 0), .int a, .int b] : List Value).toArray s 0 0 (mA G)) (F0 m 40 ls []) := by
        intro N_40
        induction N_40 with
        | zero => intro b3 k4 h0_ h1_ hb3 hN; omega
        | succ N_40 ih_40 =>
          intro b3 k4 h0_ h1_ hb3 hN_40 H locs ls hH hl
          refine lv_iload hx hb dX6_areAlike_40 (lv_at hl 4 rfl) ?_
          refine lv_aload_n hx hb dX6_areAlike_42 rfl (lv_at hl 0 rfl) ?_
          refine m_get (ci := 6) (v := .ref (h 4)) (C := RX6) (T := TX6) (N := 30) hx hb hC hH hts in_X6_areAlike_X6 hown F_1 rfl 4 (by decide) (hts (.fieldLink RX6 17 "LazyStateModel" "sizes" "[I") (by decide +kernel)) rfl dX6_areAlike_43 ?_
          refine lv_iload_n hx hb dX6_areAlike_46 rfl (lv_at hl 1 rfl) ?_
          refine m_iald hx hb hC hH hg_20 (vp_in_iff.mpr ⟨by omega, by omega⟩) dX6_areAlike_47 ?_
          refine lv_topi (fun x_37 ex_37 => ?_)
          have qx_37 := hp_20 (a.toNatClampNeg) (ic_cl rfl (by omega) (by omega))
          rw [← ex_37] at qx_37
          refine lv_icmp_ge (tgt := 94) hx hb dX6_areAlike_48 (by decide) (fun c_38 => ?_) (fun c_38 => ?_)
          · skip
            have ic_38 : (x_37.toInt : Int) ≤ k4.toInt := ic_le rfl rfl c_38
            refine lv_iload_n hx hb dX6_areAlike_94 rfl (lv_at hl 3 rfl) ?_
            exact m_zret (v := b3) hx hb hr (ic_nar _ (by omega)) hlk hC hH (fun _ => (0, 0)) ⟨rfl, by omega⟩ (Nat.le_of_ble_eq_true rfl) (Nat.le_of_ble_eq_true rfl) dX6_areAlike_95
          · skip
            have ic_38 : (x_37.toInt : Int) > k4.toInt := ic_nle rfl rfl c_38
            refine lv_iload_n hx hb dX6_areAlike_51 rfl (lv_at hl 3 rfl) ?_
            refine lv_if_eq (tgt := 94) hx hb dX6_areAlike_52 (by decide) (fun c_39 => ?_) (fun c_39 => ?_)
            · skip
              have ic_39 : (b3.toInt : Int) = 0 := ic_eq rfl kI_0 c_39
              refine lv_iload_n hx hb dX6_areAlike_94 rfl (lv_at hl 3 rfl) ?_
              exact m_zret (v := b3) hx hb hr (ic_nar _ (by omega)) hlk hC hH (fun _ => (0, 0)) ⟨rfl, by omega⟩ (Nat.le_of_ble_eq_true rfl) (Nat.le_of_ble_eq_true rfl) dX6_areAlike_95
            · skip
              have ic_39 : (b3.toInt : Int) ≠ 0 := ic_ne rfl kI_0 c_39
              refine lv_aload_n hx hb dX6_areAlike_55 rfl (lv_at hl 0 rfl) ?_
              refine m_get (ci := 6) (v := .ref (h 5)) (C := RX6) (T := TX6) (N := 30) hx hb hC hH hts in_X6_areAlike_X6 hown F_1 rfl 5 (by decide) (hts (.fieldLink RX6 21 "LazyStateModel" "items" "[I") (by decide +kernel)) rfl dX6_areAlike_56 ?_
              refine lv_bipush (v := 8) hx hb dX6_areAlike_59 (by decide) ?_
              refine lv_iload_n hx hb dX6_areAlike_61 rfl (lv_at hl 1 rfl) ?_
              refine lv_imul hx hb dX6_areAlike_62 ?_
              refine lv_topi (fun x_40 ex_40 => ?_)
              have ix_40 : x_40.toInt = 8 * a.toInt := ic_mul ex_40 kI_8 rfl (by omega) (by omega)
              refine lv_iload hx hb dX6_areAlike_63 (lv_at hl 4 rfl) ?_
              refine lv_iadd hx hb dX6_areAlike_65 ?_
              refine lv_topi (fun x_41 ex_41 => ?_)
              have ix_41 : x_41.toInt = x_40.toInt + k4.toInt := ic_add ex_41 rfl rfl (by omega) (by omega)
              obtain ⟨g_42, hg_42, hp_42⟩ : okI G 0 64512 (fun _ => True) (f (h 5)) := hI.1 5 (by decide)
              refine m_iald hx hb hC hH hg_42 (vp_in_iff.mpr ⟨by omega, by omega⟩) dX6_areAlike_66 ?_
              refine lv_topi (fun x_43 ex_43 => ?_)
              refine lv_aload_n hx hb dX6_areAlike_67 rfl (lv_at hl 0 rfl) ?_
              refine m_get (ci := 6) (v := .ref (h 5)) (C := RX6) (T := TX6) (N := 30) hx hb hC hH hts in_X6_areAlike_X6 hown F_1 rfl 5 (by decide) (hts (.fieldLink RX6 21 "LazyStateModel" "items" "[I") (by decide +kernel)) rfl dX6_areAlike_68 ?_
              refine lv_bipush (v := 8) hx hb dX6_areAlike_71 (by decide) ?_
              refine lv_iload_n hx hb dX6_areAlike_73 rfl (lv_at hl 2 rfl) ?_
              refine lv_imul hx hb dX6_areAlike_74 ?_
              refine lv_topi (fun x_44 ex_44 => ?_)
              have ix_44 : x_44.toInt = 8 * b.toInt := ic_mul ex_44 kI_8 rfl (by omega) (by omega)
              refine lv_iload hx hb dX6_areAlike_75 (lv_at hl 4 rfl) ?_
              refine lv_iadd hx hb dX6_areAlike_77 ?_
              refine lv_topi (fun x_45 ex_45 => ?_)
              have ix_45 : x_45.toInt = x_44.toInt + k4.toInt := ic_add ex_45 rfl rfl (by omega) (by omega)
              refine m_iald hx hb hC hH hg_42 (vp_in_iff.mpr ⟨by omega, by omega⟩) dX6_areAlike_78 ?_
              refine lv_topi (fun x_46 ex_46 => ?_)
              refine lv_icmp_ne (tgt := 86) hx hb dX6_areAlike_79 (by decide) (fun c_47 => ?_) (fun c_47 => ?_)
              · skip
                have ic_47 : (x_43.toInt : Int) ≠ x_46.toInt := ic_ne rfl rfl c_47
                refine lv_iconst (v := 0) hx hb dX6_areAlike_86 (by decide) ?_
                refine lv_istore_n (lv' := [(3, .int 0), (0, .ref (h 0)), (1, .int a), (2, .int b), (4, .int k4)]) hx hb dX6_areAlike_87 rfl hl (by decide) rfl (fun ls hl => ?_)
                obtain ⟨x_48, ex_48⟩ : ∃ y : Int32, y = k4 + 1 := ⟨_, rfl⟩
                have ix_48 : x_48.toInt = k4.toInt + 1 := ic_add ex_48 rfl kI_1 (by omega) (by omega)
                refine lv_iinc (v := x_48) (lv' := [(4, .int x_48), (3, .int 0), (0, .ref (h 0)), (1, .int a), (2, .int b)]) hx hb dX6_areAlike_88 hl (k := 4) rfl (by rw [ex_48]; rfl) (by decide) rfl (fun ls hl => ?_)
                refine lv_goto (tgt := 40) hx hb dX6_areAlike_91 (by decide) ?_
                exact ih_40 0 x_48 (by have := kI_0; omega) (by have := kI_0; omega) (by have := kI_0; omega) (by have := kI_0; omega) _ _ _ hH (lv_sub hl [2, 3, 4, 1, 0] rfl)
              · skip
                have ic_47 : (x_43.toInt : Int) = x_46.toInt := ic_eq rfl rfl c_47
                refine lv_iconst (v := 1) hx hb dX6_areAlike_82 (by decide) ?_
                refine lv_goto (tgt := 87) hx hb dX6_areAlike_83 (by decide) ?_
                refine lv_istore_n (lv' := [(3, .int 1), (0, .ref (h 0)), (1, .int a), (2, .int b), (4, .int k4)]) hx hb dX6_areAlike_87 rfl hl (by decide) rfl (fun ls hl => ?_)
                obtain ⟨x_49, ex_49⟩ : ∃ y : Int32, y = k4 + 1 := ⟨_, rfl⟩
                have ix_49 : x_49.toInt = k4.toInt + 1 := ic_add ex_49 rfl kI_1 (by omega) (by omega)
                refine lv_iinc (v := x_49) (lv' := [(4, .int x_49), (3, .int 1), (0, .ref (h 0)), (1, .int a), (2, .int b)]) hx hb dX6_areAlike_88 hl (k := 4) rfl (by rw [ex_49]; rfl) (by decide) rfl (fun ls hl => ?_)
                refine lv_goto (tgt := 40) hx hb dX6_areAlike_91 (by decide) ?_
                exact ih_40 1 x_49 (by have := kI_1; omega) (by have := kI_1; omega) (by have := kI_1; omega) (by have := kI_1; omega) _ _ _ hH (lv_sub hl [2, 3, 4, 1, 0] rfl)
      exact loop_40 (((8 : Int) - 0).toNat + 1) 1 0 (by have := kI_0; have := kI_1; omega) (by have := kI_0; have := kI_1; omega) (by have := kI_0; have := kI_1; omega) (by have := kI_0; have := kI_1; omega) _ _ _ hH (lv_sub hl [2, 3, 4, 1, 0] rfl)
set_option maxHeartbeats 4000000 in
set_option maxRecDepth 100000 in
theorem c_X6_rises (l : Launch) (G : mG) (h : Nat → Nat) (n : Nat) (T : Nat → Int32) (z : Nat → Nat) (A : Nat → tA) (f : mF) (hI : IM G h n T z A f) (hlo : ∃ x : Int32, fldV f (h 0) 2 = .int x ∧ x.toInt ≤ 39) : Met l yX6_rises wsX6_rises ({ frames := 2, cells := 0, slots := 0, locals := 49 }) (va_Pc [.ref (h 0)] (mW G f)) (va_Qv (fun (u : mS) => IM G h n T z A u.2 ∧ frM h f u.2) (fun (u : mS) t => mW G u.2 t) (mA G)) 0 0 (mA G) := by
  refine mMet [.ref (h 0)] (cc := cX6_rises) (maxL := 2) (ret := none) (by decide) rfl (Nat.le_of_ble_eq_true rfl) ?_
  intro p e s m below meth c ls hx hb hr hml hts hown hlk hnm hC hH hl
  have hl : lv_has ls 2 [(0, .ref (h 0))] := hl
  have hj := hI.2.2.1
  have hn24 := hI.2.2.2.1
  have nIn : (nI n).toInt = (n : Int) := nI_toInt (by omega)
  have hfr : frM h f f := frM.rf
  have hkp : kpM h f f := kpM.rf
  obtain ⟨he_1, fe_1, ca_1, ga_1, wh_1, tm_1, wm_1, ac_1, th_1, st_1, F_1, b1_1, b2_1, b3_1, b4_1, b5_1, b6_1, b7_1, b8_1⟩ : okM0 h n (f (h 0)) := hI.1 0 (by decide)
  have hlo : he_1.toInt ≤ 39 := by obtain ⟨x, q1, q2⟩ := hlo; rw [fldV_eq F_1] at q1; cases q1; exact q2
  refine lv_aload_n hx hb dX6_rises_0 rfl (lv_at hl 0 rfl) ?_
  refine lv_dup hx hb dX6_rises_1 rfl ?_
  refine m_get (ci := 6) (v := .int he_1) (C := RX6) (T := TX6) (N := 30) hx hb hC hH hts in_X6_rises_X6 hown F_1 rfl 2 (by decide) (hts (.fieldLink RX6 104 "LazyStateModel" "height" "I") (by decide +kernel)) rfl dX6_rises_2 ?_
  refine lv_iconst (v := 1) hx hb dX6_rises_5 (by decide) ?_
  refine lv_iadd hx hb dX6_rises_6 ?_
  refine lv_topi (fun x_2 ex_2 => ?_)
  have ix_2 : x_2.toInt = he_1.toInt + 1 := ic_add ex_2 rfl kI_1 (by omega) (by omega)
  refine m_put (ci := 6) (v := .int x_2) (C := RX6) (T := TX6) (N := 30) hx hb hC hH hts in_X6_rises_X6 tyX6 tyX6_ok nmX6 hown F_1 rfl 2 (by decide) (hts (.fieldLink RX6 104 "LazyStateModel" "height" "I") (by decide +kernel)) rfl rfl rfl (Nat.le_of_ble_eq_true rfl) dX6_rises_7 (fun H locs hH => ?_)
  have hH : mH G s (va_up f (h 0) (some (.inr (6, [.int (nI n), .ref (h 1), .int x_2, .ref (h 3), .ref (h 4), .ref (h 5), .ref (h 6), .int fe_1, .ref (h 8), .ref (h 9), .ref (h 10), .ref (h 11), .ref (h 12), .ref (h 13), .ref (h 14), .ref (h 15), .int ca_1, .long ga_1, .int wh_1, .int tm_1, .ref (h 20), .ref (h 21), .int wm_1, .ref (h 23), .ref (h 24), .int ac_1, .ref (h 26), .ref (h 27), .int th_1, .int st_1])))) H locs := hH
  obtain ⟨f_3, ef_3⟩ : ∃ zz_ : mF, zz_ = va_up f (h 0) (some (.inr (6, [.int (nI n), .ref (h 1), .int x_2, .ref (h 3), .ref (h 4), .ref (h 5), .ref (h 6), .int fe_1, .ref (h 8), .ref (h 9), .ref (h 10), .ref (h 11), .ref (h 12), .ref (h 13), .ref (h 14), .ref (h 15), .int ca_1, .long ga_1, .int wh_1, .int tm_1, .ref (h 20), .ref (h 21), .int wm_1, .ref (h 23), .ref (h 24), .int ac_1, .ref (h 26), .ref (h 27), .int th_1, .int st_1]))) := ⟨_, rfl⟩
  rw [← ef_3] at hH
  have F_4 : f_3 (h 0) = some (.inr (6, [.int (nI n), .ref (h 1), .int x_2, .ref (h 3), .ref (h 4), .ref (h 5), .ref (h 6), .int fe_1, .ref (h 8), .ref (h 9), .ref (h 10), .ref (h 11), .ref (h 12), .ref (h 13), .ref (h 14), .ref (h 15), .int ca_1, .long ga_1, .int wh_1, .int tm_1, .ref (h 20), .ref (h 21), .int wm_1, .ref (h 23), .ref (h 24), .int ac_1, .ref (h 26), .ref (h 27), .int th_1, .int st_1])) := by rw [ef_3]; exact va_up_self _ _ _
  have hI : IM G h n T z A f_3 := hI.obj F_1 ef_3 rfl ⟨_, _, _, _, _, _, _, _, _, _, rfl, by omega, by omega, by omega, by omega, by omega, by omega, by omega, by omega⟩
  have hfr := hfr.up 0 (by decide) ef_3
  have hkp : kpM h f_3 f_3 := kpM.rf
  refine lv_aload_n hx hb dX6_rises_10 rfl (lv_at hl 0 rfl) ?_
  refine lv_bipush (v := 41) hx hb dX6_rises_11 (by decide) ?_
  refine lv_aload_n hx hb dX6_rises_13 rfl (lv_at hl 0 rfl) ?_
  refine m_get (ci := 6) (v := .int x_2) (C := RX6) (T := TX6) (N := 30) hx hb hC hH hts in_X6_rises_X6 hown F_4 rfl 2 (by decide) (hts (.fieldLink RX6 104 "LazyStateModel" "height" "I") (by decide +kernel)) rfl dX6_rises_14 ?_
  refine m_gov hH (va_runV (As := [.int 41, .int x_2]) (rest := []) ⟨hx, hb, hml, hown, hts⟩ (c_X6_copyAll l G h n T z A f_3 hI 41 x_2 (by have := kI_41; omega) (by have := kI_41; omega)) (cwV 2 hts gX6_rises_X6_copyAll rfl rfl rfl (by decide +kernel) ⟨Nat.le_of_ble_eq_true rfl, Nat.le_of_ble_eq_true rfl⟩) (m_preV (ci := 6) hC hH F_4 rfl) rfl rfl hl.1 rfl (lv_room (Nat.le_of_ble_eq_true rfl)) dX6_rises_17 ⟨Nat.le_of_ble_eq_true rfl, Nat.le_of_ble_eq_true rfl⟩) (fun rho_7 f_6 H locs hw hH => ?_)
  obtain ⟨hI, hfr1, hkp1⟩ := hw
  have hI : IM G h n T z A f_6 := hI
  have hfr1 : frM h f_3 f_6 := hfr1
  have hkp1 : kpM h f_3 f_6 := hkp1
  have hfr := hfr.trans hfr1
  have hkp := hkp.trans hkp1
  obtain ⟨he_8, fe_8, ca_8, ga_8, wh_8, tm_8, wm_8, ac_8, th_8, st_8, F_8, b1_8, b2_8, b3_8, b4_8, b5_8, b6_8, b7_8, b8_8⟩ : okM0 h n (f_6 (h 0)) := hI.1 0 (by decide)
  have kk_wm_8 : wm_8.toInt = wm_1.toInt := (congrArg Int32.toInt (show wm_8 = wm_1 from Value.int.inj (by have q := hkp1.1; rw [fldV_eq F_8, fldV_eq F_4] at q; exact q))).trans rfl
  have kk_ac_8 : ac_8.toInt = ac_1.toInt := (congrArg Int32.toInt (show ac_8 = ac_1 from Value.int.inj (by have q := hkp1.2.1; rw [fldV_eq F_8, fldV_eq F_4] at q; exact q))).trans rfl
  have kk_he_8 : he_8.toInt = x_2.toInt := (congrArg Int32.toInt (show he_8 = x_2 from Value.int.inj (by have q := hkp1.2.2; rw [fldV_eq F_8, fldV_eq F_4] at q; exact q))).trans rfl
  refine lv_iconst (v := 0) hx hb dX6_rises_20 (by decide) ?_
  refine lv_istore_n (lv' := [(1, .int 0), (0, .ref (h 0))]) hx hb dX6_rises_21 rfl hl (by decide) rfl (fun ls hl => ?_)
  have loop_22 : ∀ (fuel_ : Nat) (k1 : Int32) (fL : mF) (h0_ : 0 ≤ k1.toInt) (h1_ : k1.toInt ≤ 24) (hI : IM G h n T z A fL) (hfr : frM h f fL) (hkp : kpM h f_3 fL) (_ : ((24 : Int) - k1.toInt).toNat < fuel_) (H : Heap) (locs : List Loc) (ls : Array Slot) (_ : mH G s fL H locs) (_ : lv_has ls 2 [(0, .ref (h 0)), (1, .int k1)]), W p l e ({ frames := 2, cells := 0, slots := 0, locals := 49 } : Room) s m ([.ref (h 0)] : List Value).toArray below meth c H locs (0 + 0) (0 + 0) (MQ below (va_Qv (fun (u : mS) => IM G h n T z A u.2 ∧ frM h f u.2) (fun (u : mS) t => mW G u.2 t) (mA G)) ([.ref (h 0)] : List Value).toArray s 0 0 (mA G)) (F0 m 22 ls []) := by
    intro N_22
    induction N_22 with
    | zero => intro k1 fL h0_ h1_ hI hfr hkp hN; omega
    | succ N_22 ih_22 =>
      intro k1 fL h0_ h1_ hI hfr hkp hN_22 H locs ls hH hl
      refine lv_iload_n hx hb dX6_rises_22 rfl (lv_at hl 1 rfl) ?_
      refine lv_bipush (v := 24) hx hb dX6_rises_23 (by decide) ?_
      refine lv_icmp_ge (tgt := 41) hx hb dX6_rises_25 (by decide) (fun c_9 => ?_) (fun c_9 => ?_)
      · skip
        have ic_9 : (24 : Int) ≤ k1.toInt := ic_le kI_24 rfl c_9
        exact m_vret hx hb hr hlk hC hH (fun _ => (0, 0)) ⟨hI, hfr⟩ (Nat.le_of_ble_eq_true rfl) (Nat.le_of_ble_eq_true rfl) dX6_rises_41
      · skip
        have ic_9 : (24 : Int) > k1.toInt := ic_nle kI_24 rfl c_9
        refine lv_aload_n hx hb dX6_rises_28 rfl (lv_at hl 0 rfl) ?_
        obtain ⟨he_10, fe_10, ca_10, ga_10, wh_10, tm_10, wm_10, ac_10, th_10, st_10, F_10, b1_10, b2_10, b3_10, b4_10, b5_10, b6_10, b7_10, b8_10⟩ : okM0 h n (fL (h 0)) := hI.1 0 (by decide)
        refine m_get (ci := 6) (v := .ref (h 6)) (C := RX6) (T := TX6) (N := 30) hx hb hC hH hts in_X6_rises_X6 hown F_10 rfl 6 (by decide) (hts (.fieldLink RX6 24 "LazyStateModel" "isCached" "[Z") (by decide +kernel)) rfl dX6_rises_29 ?_
        refine lv_iload_n hx hb dX6_rises_32 rfl (lv_at hl 1 rfl) ?_
        refine lv_iconst (v := 0) hx hb dX6_rises_33 (by decide) ?_
        obtain ⟨g_11, hg_11, hp_11⟩ : okI G 2 24 (fun _ => True) (fL (h 6)) := hI.1 6 (by decide)
        refine m_zast hx hb hC hH hg_11 (vp_in_iff.mpr ⟨by omega, by omega⟩) dX6_rises_34 (fun H locs hH => ?_)
        obtain ⟨f_12, ef_12⟩ : ∃ zz_ : mF, zz_ = va_up fL (h 6) (some (.inl (gk G 2, 24, .inl (upd g_11 k1.toNatClampNeg (vp_nar .boolean 0))))) := ⟨_, rfl⟩
        rw [← ef_12] at hH
        have F_13 := upk F_10 ef_12 (neM hj (by decide) (by decide) (by decide))
        have hI : IM G h n T z A f_12 := hI.arr 6 (by decide) (by decide) (by decide) (by decide) (show okI G 2 24 (fun _ => True) _ from ⟨_, rfl, trivial⟩) ef_12
        have hfr := hfr.up 6 (by decide) ef_12
        have hkp := hkp.up 6 hj (by decide) (by decide) ef_12
        obtain ⟨x_14, ex_14⟩ : ∃ y : Int32, y = k1 + 1 := ⟨_, rfl⟩
        have ix_14 : x_14.toInt = k1.toInt + 1 := ic_add ex_14 rfl kI_1 (by omega) (by omega)
        refine lv_iinc (v := x_14) (lv' := [(1, .int x_14), (0, .ref (h 0))]) hx hb dX6_rises_35 hl (k := 1) rfl (by rw [ex_14]; rfl) (by decide) rfl (fun ls hl => ?_)
        refine lv_goto (tgt := 22) hx hb dX6_rises_38 (by decide) ?_
        exact ih_22 x_14 f_12 (by omega) (by omega) hI hfr hkp (by omega) _ _ _ hH (lv_sub hl [1, 0] rfl)
  exact loop_22 (((24 : Int) - 0).toNat + 1) 0 f_6 (by have := kI_0; omega) (by have := kI_0; omega) hI hfr hkp (by have := kI_0; omega) _ _ _ hH (lv_sub hl [1, 0] rfl)
