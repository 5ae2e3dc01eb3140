set_option maxHeartbeats 4000000 in
set_option maxRecDepth 100000 in
theorem c_X6_first (l : Launch) (G : mG) (h : Nat → Nat) (n : Nat) (c0 : tC) (I : Nat → Nat → Int32) (J : Nat → Nat → Int64) (f : mF) (hM : MEM G h n c0 I J f) (a o j : Int32) (ha : 0 ≤ a.toInt ∧ a.toInt ≤ 41) (ho : 0 ≤ o.toInt ∧ o.toInt < 24) (hjj : 0 ≤ j.toInt ∧ j.toInt < 8) (t : Nat) (ht : t < 3) (hty : I 1 o.toNatClampNeg = nI t) : Met l yX6_first wsX6_first ({ frames := 1, cells := 0, slots := 0, locals := 21 }) (va_Pc [.ref (h 0), .int a, .int o, .int j] (mW G f)) (va_Qv (fun (u : mS) => frM h f u.2 ∧ MEM G h n c0 (va_up I 4 (upd (I 4) (192 * a.toNatClampNeg + 8 * o.toNatClampNeg + j.toNatClampNeg) (-3))) (va_up J 3 (vp_updL (J 3) (192 * a.toNatClampNeg + 8 * o.toNatClampNeg + j.toNatClampNeg) (fstN t j.toNatClampNeg))) u.2) (fun (u : mS) t => mW G u.2 t) (mA G)) 0 0 (mA G) := by
  refine mMet [.ref (h 0), .int a, .int o, .int j] (cc := cX6_first) (maxL := 5) (ret := none) (by decide) rfl (Nat.le_of_ble_eq_true rfl) ?_
  intro p e s m below meth c ls hx hb hr hml hts hown hlk hnm hC hH hl
  have hl : lv_has ls 5 [(0, .ref (h 0)), (1, .int a), (2, .int o), (3, .int j)] := hl
  have hfr : frM h f f := frM.rf
  have cl_a := ic_clN (rfl : a.toInt = _) (by omega)
  have cl_o := ic_clN (rfl : o.toInt = _) (by omega)
  have cl_j := ic_clN (rfl : j.toInt = _) (by omega)
  refine lv_sipush (v := 192) hx hb dX6_first_0 (by decide) ?_
  refine lv_iload_n hx hb dX6_first_3 rfl (lv_at hl 1 rfl) ?_
  refine lv_imul hx hb dX6_first_4 ?_
  refine lv_topi (fun x_1 ex_1 => ?_)
  have ix_1 : x_1.toInt = 192 * a.toInt := ic_mul ex_1 kI_192 rfl (by omega) (by omega)
  refine lv_bipush (v := 8) hx hb dX6_first_5 (by decide) ?_
  refine lv_iload_n hx hb dX6_first_7 rfl (lv_at hl 2 rfl) ?_
  refine lv_imul hx hb dX6_first_8 ?_
  refine lv_topi (fun x_2 ex_2 => ?_)
  have ix_2 : x_2.toInt = 8 * o.toInt := ic_mul ex_2 kI_8 rfl (by omega) (by omega)
  refine lv_iadd hx hb dX6_first_9 ?_
  refine lv_topi (fun x_3 ex_3 => ?_)
  have ix_3 : x_3.toInt = x_1.toInt + x_2.toInt := ic_add ex_3 rfl rfl (by omega) (by omega)
  refine lv_iload_n hx hb dX6_first_10 rfl (lv_at hl 3 rfl) ?_
  refine lv_iadd hx hb dX6_first_11 ?_
  refine lv_topi (fun x_4 ex_4 => ?_)
  have ix_4 : x_4.toInt = x_3.toInt + j.toInt := ic_add ex_4 rfl rfl (by omega) (by omega)
  refine lv_istore (lv' := [(4, .int x_4), (0, .ref (h 0)), (1, .int a), (2, .int o), (3, .int j)]) hx hb dX6_first_12 hl (by decide) rfl (fun ls hl => ?_)
  refine lv_aload_n hx hb dX6_first_14 rfl (lv_at hl 1 rfl) ?_
  have F_5 : f (h 0) = some (.inr (6, [.int (nI n), .ref (h 1), .int c0.1, .ref (h 3), .ref (h 4), .ref (h 5), .ref (h 6), .int c0.2.1, .ref (h 8), .ref (h 9), .ref (h 10), .ref (h 11), .ref (h 12), .ref (h 13), .ref (h 14), .ref (h 15), .int c0.2.2.1, .long c0.2.2.2.1, .int c0.2.2.2.2.1, .int c0.2.2.2.2.2.1, .ref (h 20), .ref (h 21), .int c0.2.2.2.2.2.2.1, .ref (h 23), .ref (h 24), .int c0.2.2.2.2.2.2.2.1, .ref (h 26), .ref (h 27), .int c0.2.2.2.2.2.2.2.2.1, .int c0.2.2.2.2.2.2.2.2.2])) := hM.1
  refine m_get (ci := 6) (v := .ref (h 3)) (C := RX6) (T := TX6) (N := 30) hx hb hC hH hts in_X6_first_X6 hown F_5 rfl 3 (by decide) (hts (.fieldLink RX6 13 "LazyStateModel" "numbers" "[J") (by decide +kernel)) rfl dX6_first_15 ?_
  refine lv_iload hx hb dX6_first_18 (lv_at hl 0 rfl) ?_
  refine lv_iload_n hx hb dX6_first_20 rfl (lv_at hl 4 rfl) ?_
  refine lv_aload_n hx hb dX6_first_21 rfl (lv_at hl 1 rfl) ?_
  refine m_get (ci := 6) (v := .ref (h 1)) (C := RX6) (T := TX6) (N := 30) hx hb hC hH hts in_X6_first_X6 hown F_5 rfl 1 (by decide) (hts (.fieldLink RX6 7 "LazyStateModel" "types" "[I") (by decide +kernel)) rfl dX6_first_22 ?_
  refine lv_iload_n hx hb dX6_first_25 rfl (lv_at hl 3 rfl) ?_
  have hg_6 : f (h 1) = some (.inl (gk G 0, 24, .inl (I 1))) := hM.2.1 1 (by decide) rfl
  refine m_iald hx hb hC hH hg_6 (vp_in_iff.mpr ⟨by omega, by omega⟩) dX6_first_26 ?_
  refine lv_topi (fun x_7 ex_7 => ?_)
  have ty1_ : x_7.toInt = ((t : Nat) : Int) := by rw [ex_7, hty]; exact nI_toInt (by omega)
  refine m_goi hH (va_runS (As := [.int x_7]) (rest := [.int j, .int x_4, .ref (h 3)]) ⟨hx, hb, hml, hown, hts⟩ (c_X6_fieldsOf l G f x_7) (va_cwS 1 hts gX6_first_X6_fieldsOf rfl rfl rfl (by decide +kernel) ⟨Nat.le_of_ble_eq_true rfl, Nat.le_of_ble_eq_true rfl⟩) (m_preS hC hH) rfl rfl hl.1 rfl (lv_room (Nat.le_of_ble_eq_true rfl)) dX6_first_27 ⟨Nat.le_of_ble_eq_true rfl, Nat.le_of_ble_eq_true rfl⟩) (fun r_8 rho_10 f_9 H locs hw hH => ?_)
  obtain ⟨hu, hr_8⟩ := hw
  have hu : f_9 = f := hu
  rw [hu] at hH
  have br_8 : 3 ≤ r_8.toInt ∧ r_8.toInt ≤ 6 := by rw [hr_8]; unfold fldM; (repeat' split) <;> omega
  refine lv_icmp_ge (tgt := 53) hx hb dX6_first_30 (by decide) (fun c_11 => ?_) (fun c_11 => ?_)
  · skip
    have ic_11 : (r_8.toInt : Int) ≤ j.toInt := ic_le rfl rfl c_11
    have s2_ : ¬ srt t j.toNatClampNeg = 2 := fun z_ => by have sm_ := srt_M t ht j.toNatClampNeg (by omega); rw [cl_j] at sm_; have q_ := hr_8; rw [ty1_] at q_; have w_ := sm_.1.mpr (by omega); omega
    refine lv_lconst (v := 0) hx hb dX6_first_53 (by decide) ?_
    have hg_12 : f (h 3) = some (.inl (gk G 1, 8064, .inr (.inl (J 3)))) := hM.2.2.1 3 (by decide) rfl
    refine m_last hx hb hC hH hg_12 (vp_in_iff.mpr ⟨by omega, by omega⟩) dX6_first_54 (fun H locs hH => ?_)
    obtain ⟨f_13, ef_13⟩ : ∃ zz_ : mF, zz_ = va_up f (h 3) (some (.inl (gk G 1, 8064, .inr (.inl (vp_updL (J 3) x_4.toNatClampNeg 0))))) := ⟨_, rfl⟩
    rw [← ef_13] at hH
    have hM : MEM G h n c0 I (va_up J 3 (vp_updL (J 3) x_4.toNatClampNeg 0)) f_13 := hM.setJ 3 (by decide) rfl ef_13
    have hfr := hfr.up 3 (by decide) ef_13
    have nn_14 : x_4.toNatClampNeg = (192 * a.toNatClampNeg + 8 * o.toNatClampNeg + j.toNatClampNeg) := by have := ic_clN (rfl : x_4.toInt = _) (by omega); omega
    rw [nn_14] at hM
    have fv_ : (0 : Int64) = fstN t j.toNatClampNeg := by unfold fstN; rw [if_neg s2_]
    rw [fv_] at hM
    refine lv_aload_n hx hb dX6_first_55 rfl (lv_at hl 1 rfl) ?_
    have F_15 : f_13 (h 0) = some (.inr (6, [.int (nI n), .ref (h 1), .int c0.1, .ref (h 3), .ref (h 4), .ref (h 5), .ref (h 6), .int c0.2.1, .ref (h 8), .ref (h 9), .ref (h 10), .ref (h 11), .ref (h 12), .ref (h 13), .ref (h 14), .ref (h 15), .int c0.2.2.1, .long c0.2.2.2.1, .int c0.2.2.2.2.1, .int c0.2.2.2.2.2.1, .ref (h 20), .ref (h 21), .int c0.2.2.2.2.2.2.1, .ref (h 23), .ref (h 24), .int c0.2.2.2.2.2.2.2.1, .ref (h 26), .ref (h 27), .int c0.2.2.2.2.2.2.2.2.1, .int c0.2.2.2.2.2.2.2.2.2])) := hM.1
    refine m_get (ci := 6) (v := .ref (h 4)) (C := RX6) (T := TX6) (N := 30) hx hb hC hH hts in_X6_first_X6 hown F_15 rfl 4 (by decide) (hts (.fieldLink RX6 17 "LazyStateModel" "sizes" "[I") (by decide +kernel)) rfl dX6_first_56 ?_
    refine lv_iload hx hb dX6_first_59 (lv_at hl 0 rfl) ?_
    refine lv_bipush (v := (-3)) hx hb dX6_first_61 (by decide) ?_
    have hg_16 : f_13 (h 4) = some (.inl (gk G 0, 8064, .inl (I 4))) := hM.2.1 4 (by decide) rfl
    refine m_iast hx hb hC hH hg_16 (vp_in_iff.mpr ⟨by omega, by omega⟩) dX6_first_63 (fun H locs hH => ?_)
    obtain ⟨f_17, ef_17⟩ : ∃ zz_ : mF, zz_ = va_up f_13 (h 4) (some (.inl (gk G 0, 8064, .inl (upd (I 4) x_4.toNatClampNeg (-3))))) := ⟨_, rfl⟩
    rw [← ef_17] at hH
    have hM : MEM G h n c0 (va_up I 4 (upd (I 4) x_4.toNatClampNeg (-3))) (va_up J 3 (vp_updL (J 3) (192 * a.toNatClampNeg + 8 * o.toNatClampNeg + j.toNatClampNeg) (fstN t j.toNatClampNeg))) f_17 := hM.setI 4 (by decide) rfl ef_17
    have hfr := hfr.up 4 (by decide) ef_17
    have nn_18 : x_4.toNatClampNeg = (192 * a.toNatClampNeg + 8 * o.toNatClampNeg + j.toNatClampNeg) := by have := ic_clN (rfl : x_4.toInt = _) (by omega); omega
    rw [nn_18] at hM
    exact m_vret hx hb hr hlk hC hH (fun _ => (0, 0)) ⟨hfr, hM⟩ (Nat.le_of_ble_eq_true rfl) (Nat.le_of_ble_eq_true rfl) dX6_first_64
  · skip
    have ic_11 : (r_8.toInt : Int) > j.toInt := ic_nle rfl rfl c_11
    refine lv_aload_n hx hb dX6_first_33 rfl (lv_at hl 1 rfl) ?_
    refine m_get (ci := 6) (v := .ref (h 1)) (C := RX6) (T := TX6) (N := 30) hx hb hC hH hts in_X6_first_X6 hown F_5 rfl 1 (by decide) (hts (.fieldLink RX6 7 "LazyStateModel" "types" "[I") (by decide +kernel)) rfl dX6_first_34 ?_
    refine lv_iload_n hx hb dX6_first_37 rfl (lv_at hl 3 rfl) ?_
    refine m_iald hx hb hC hH hg_6 (vp_in_iff.mpr ⟨by omega, by omega⟩) dX6_first_38 ?_
    refine lv_topi (fun x_19 ex_19 => ?_)
    have ty2_ : x_19.toInt = ((t : Nat) : Int) := by rw [ex_19, hty]; exact nI_toInt (by omega)
    refine lv_iload_n hx hb dX6_first_39 rfl (lv_at hl 4 rfl) ?_
    refine m_goi hH (va_runS (As := [.int x_19, .int j]) (rest := [.int x_4, .ref (h 3)]) ⟨hx, hb, hml, hown, hts⟩ (c_X6_sortOf l G f x_19 j) (va_cwS 2 hts gX6_first_X6_sortOf rfl rfl rfl (by decide +kernel) ⟨Nat.le_of_ble_eq_true rfl, Nat.le_of_ble_eq_true rfl⟩) (m_preS hC hH) rfl rfl hl.1 rfl (lv_room (Nat.le_of_ble_eq_true rfl)) dX6_first_40 ⟨Nat.le_of_ble_eq_true rfl, Nat.le_of_ble_eq_true rfl⟩) (fun r_20 rho_22 f_21 H locs hw hH => ?_)
    obtain ⟨hu, hr_20⟩ := hw
    have hu : f_21 = f := hu
    rw [hu] at hH
    refine lv_iconst (v := 1) hx hb dX6_first_43 (by decide) ?_
    refine lv_icmp_ne (tgt := 53) hx hb dX6_first_44 (by decide) (fun c_23 => ?_) (fun c_23 => ?_)
    · skip
      have ic_23 : (r_20.toInt : Int) ≠ 1 := ic_ne rfl kI_1 c_23
      have s2_ : ¬ srt t j.toNatClampNeg = 2 := fun z_ => by have sm_ := srt_M t ht j.toNatClampNeg (by omega); rw [cl_j] at sm_; have q_ := hr_20; rw [ty2_] at q_; have w_ := sm_.2 (by omega); have := kI_1; omega
      refine lv_lconst (v := 0) hx hb dX6_first_53 (by decide) ?_
      have hg_24 : f (h 3) = some (.inl (gk G 1, 8064, .inr (.inl (J 3)))) := hM.2.2.1 3 (by decide) rfl
      refine m_last hx hb hC hH hg_24 (vp_in_iff.mpr ⟨by omega, by omega⟩) dX6_first_54 (fun H locs hH => ?_)
      obtain ⟨f_25, ef_25⟩ : ∃ zz_ : mF, zz_ = va_up f (h 3) (some (.inl (gk G 1, 8064, .inr (.inl (vp_updL (J 3) x_4.toNatClampNeg 0))))) := ⟨_, rfl⟩
      rw [← ef_25] at hH
      have hM : MEM G h n c0 I (va_up J 3 (vp_updL (J 3) x_4.toNatClampNeg 0)) f_25 := hM.setJ 3 (by decide) rfl ef_25
      have hfr := hfr.up 3 (by decide) ef_25
      have nn_26 : x_4.toNatClampNeg = (192 * a.toNatClampNeg + 8 * o.toNatClampNeg + j.toNatClampNeg) := by have := ic_clN (rfl : x_4.toInt = _) (by omega); omega
      rw [nn_26] at hM
      have fv_ : (0 : Int64) = fstN t j.toNatClampNeg := by unfold fstN; rw [if_neg s2_]
      rw [fv_] at hM
      refine lv_aload_n hx hb dX6_first_55 rfl (lv_at hl 1 rfl) ?_
      have F_27 : f_25 (h 0) = some (.inr (6, [.int (nI n), .ref (h 1), .int c0.1, .ref (h 3), .ref (h 4), .ref (h 5), .ref (h 6), .int c0.2.1, .ref (h 8), .ref (h 9), .ref (h 10), .ref (h 11), .ref (h 12), .ref (h 13), .ref (h 14), .ref (h 15), .int c0.2.2.1, .long c0.2.2.2.1, .int c0.2.2.2.2.1, .int c0.2.2.2.2.2.1, .ref (h 20), .ref (h 21), .int c0.2.2.2.2.2.2.1, .ref (h 23), .ref (h 24), .int c0.2.2.2.2.2.2.2.1, .ref (h 26), .ref (h 27), .int c0.2.2.2.2.2.2.2.2.1, .int c0.2.2.2.2.2.2.2.2.2])) := hM.1
      refine m_get (ci := 6) (v := .ref (h 4)) (C := RX6) (T := TX6) (N := 30) hx hb hC hH hts in_X6_first_X6 hown F_27 rfl 4 (by decide) (hts (.fieldLink RX6 17 "LazyStateModel" "sizes" "[I") (by decide +kernel)) rfl dX6_first_56 ?_
      refine lv_iload hx hb dX6_first_59 (lv_at hl 0 rfl) ?_
      refine lv_bipush (v := (-3)) hx hb dX6_first_61 (by decide) ?_
      have hg_28 : f_25 (h 4) = some (.inl (gk G 0, 8064, .inl (I 4))) := hM.2.1 4 (by decide) rfl
      refine m_iast hx hb hC hH hg_28 (vp_in_iff.mpr ⟨by omega, by omega⟩) dX6_first_63 (fun H locs hH => ?_)
      obtain ⟨f_29, ef_29⟩ : ∃ zz_ : mF, zz_ = va_up f_25 (h 4) (some (.inl (gk G 0, 8064, .inl (upd (I 4) x_4.toNatClampNeg (-3))))) := ⟨_, rfl⟩
      rw [← ef_29] at hH
      have hM : MEM G h n c0 (va_up I 4 (upd (I 4) x_4.toNatClampNeg (-3))) (va_up J 3 (vp_updL (J 3) (192 * a.toNatClampNeg + 8 * o.toNatClampNeg + j.toNatClampNeg) (fstN t j.toNatClampNeg))) f_29 := hM.setI 4 (by decide) rfl ef_29
      have hfr := hfr.up 4 (by decide) ef_29
      have nn_30 : x_4.toNatClampNeg = (192 * a.toNatClampNeg + 8 * o.toNatClampNeg + j.toNatClampNeg) := by have := ic_clN (rfl : x_4.toInt = _) (by omega); omega
      rw [nn_30] at hM
      exact m_vret hx hb hr hlk hC hH (fun _ => (0, 0)) ⟨hfr, hM⟩ (Nat.le_of_ble_eq_true rfl) (Nat.le_of_ble_eq_true rfl) dX6_first_64
    · skip
      have ic_23 : (r_20.toInt : Int) = 1 := ic_eq rfl kI_1 c_23
      have s2_ : srt t j.toNatClampNeg = 2 := by have sm_ := srt_M t ht j.toNatClampNeg (by omega); rw [cl_j] at sm_; have f_ := hr_8; rw [ty1_] at f_; have q_ := hr_20; rw [ty2_] at q_; have w_ := sm_.2 (sm_.1.mp (by omega)); have := kI_1; omega
      refine lv_ldc2 (v := (-3)) hx hb hown (hts (.constantLong RX6 93 (-3)) (by decide +kernel)) dX6_first_47 ?_
      refine lv_goto (tgt := 54) hx hb dX6_first_50 (by decide) ?_
      have hg_31 : f (h 3) = some (.inl (gk G 1, 8064, .inr (.inl (J 3)))) := hM.2.2.1 3 (by decide) rfl
      refine m_last hx hb hC hH hg_31 (vp_in_iff.mpr ⟨by omega, by omega⟩) dX6_first_54 (fun H locs hH => ?_)
      obtain ⟨f_32, ef_32⟩ : ∃ zz_ : mF, zz_ = va_up f (h 3) (some (.inl (gk G 1, 8064, .inr (.inl (vp_updL (J 3) x_4.toNatClampNeg (-3)))))) := ⟨_, rfl⟩
      rw [← ef_32] at hH
      have hM : MEM G h n c0 I (va_up J 3 (vp_updL (J 3) x_4.toNatClampNeg (-3))) f_32 := hM.setJ 3 (by decide) rfl ef_32
      have hfr := hfr.up 3 (by decide) ef_32
      have nn_33 : x_4.toNatClampNeg = (192 * a.toNatClampNeg + 8 * o.toNatClampNeg + j.toNatClampNeg) := by have := ic_clN (rfl : x_4.toInt = _) (by omega); omega
      rw [nn_33] at hM
      have fv_ : ((-3) : Int64) = fstN t j.toNatClampNeg := by unfold fstN; rw [if_pos s2_]
      rw [fv_] at hM
      refine lv_aload_n hx hb dX6_first_55 rfl (lv_at hl 1 rfl) ?_
      have F_34 : f_32 (h 0) = some (.inr (6, [.int (nI n), .ref (h 1), .int c0.1, .ref (h 3), .ref (h 4), .ref (h 5), .ref (h 6), .int c0.2.1, .ref (h 8), .ref (h 9), .ref (h 10), .ref (h 11), .ref (h 12), .ref (h 13), .ref (h 14), .ref (h 15), .int c0.2.2.1, .long c0.2.2.2.1, .int c0.2.2.2.2.1, .int c0.2.2.2.2.2.1, .ref (h 20), .ref (h 21), .int c0.2.2.2.2.2.2.1, .ref (h 23), .ref (h 24), .int c0.2.2.2.2.2.2.2.1, .ref (h 26), .ref (h 27), .int c0.2.2.2.2.2.2.2.2.1, .int c0.2.2.2.2.2.2.2.2.2])) := hM.1
      refine m_get (ci := 6) (v := .ref (h 4)) (C := RX6) (T := TX6) (N := 30) hx hb hC hH hts in_X6_first_X6 hown F_34 rfl 4 (by decide) (hts (.fieldLink RX6 17 "LazyStateModel" "sizes" "[I") (by decide +kernel)) rfl dX6_first_56 ?_
      refine lv_iload hx hb dX6_first_59 (lv_at hl 0 rfl) ?_
      refine lv_bipush (v := (-3)) hx hb dX6_first_61 (by decide) ?_
      have hg_35 : f_32 (h 4) = some (.inl (gk G 0, 8064, .inl (I 4))) := hM.2.1 4 (by decide) rfl
      refine m_iast hx hb hC hH hg_35 (vp_in_iff.mpr ⟨by omega, by omega⟩) dX6_first_63 (fun H locs hH => ?_)
      obtain ⟨f_36, ef_36⟩ : ∃ zz_ : mF, zz_ = va_up f_32 (h 4) (some (.inl (gk G 0, 8064, .inl (upd (I 4) x_4.toNatClampNeg (-3))))) := ⟨_, rfl⟩
      rw [← ef_36] at hH
      have hM : MEM G h n c0 (va_up I 4 (upd (I 4) x_4.toNatClampNeg (-3))) (va_up J 3 (vp_updL (J 3) (192 * a.toNatClampNeg + 8 * o.toNatClampNeg + j.toNatClampNeg) (fstN t j.toNatClampNeg))) f_36 := hM.setI 4 (by decide) rfl ef_36
      have hfr := hfr.up 4 (by decide) ef_36
      have nn_37 : x_4.toNatClampNeg = (192 * a.toNatClampNeg + 8 * o.toNatClampNeg + j.toNatClampNeg) := by have := ic_clN (rfl : x_4.toInt = _) (by omega); omega
      rw [nn_37] at hM
      exact m_vret hx hb hr hlk hC hH (fun _ => (0, 0)) ⟨hfr, hM⟩ (Nat.le_of_ble_eq_true rfl) (Nat.le_of_ble_eq_true rfl) dX6_first_64
set_option maxHeartbeats 4000000 in
set_option maxRecDepth 100000 in
theorem c_X6_object (l : Launch) (G : mG) (h : Nat → Nat) (n : Nat) (T z : Nat → Nat) (A : Nat → tA) (hg : Nat) (ver : Nat → Nat → tB) (cq : Nat → Bool) (fe : Int32) (tms : Nat → Int32) (ca : Int32) (wl : List Nat) (wh : Int32) (ac th : Nat) (sx : Int32) (σ : tS) (f : mF) (hI : FM G h n T z A hg ver cq fe tms ca wl wh ac th sx σ f) (ty : Int32) : Met l yX6_object wsX6_object ({ frames := 2, cells := 0, slots := 0, locals := 45 }) (va_Pc [.ref (h 0), .int ty] (mW G f)) (va_Qi (fun (r : Int32) (u : mS) => frM h f u.2 ∧ (((ty.toInt < 0 ∨ 3 ≤ ty.toInt) ∧ r.toInt = -1 ∧ FM G h n T z A hg ver cq fe tms ca wl wh ac th sx σ u.2) ∨ (0 ≤ ty.toInt ∧ ty.toInt < 3 ∧ n = 24 ∧ r.toInt = -2 ∧ FM G h n T z A hg ver cq fe tms ca wl wh ac th sx σ u.2) ∨ (0 ≤ ty.toInt ∧ ty.toInt < 3 ∧ n < 24 ∧ r.toInt = n ∧ (∃ s2 : tS, ldS s2 = ldS σ ∧ trS s2 = trS σ ∧ gfS s2 = gfS σ ∧ FM G h (n + 1) (va_up T n ty.toNatClampNeg) z A hg (fun a_ => va_up (ver a_) n (fstB ty.toNatClampNeg)) cq fe tms ca wl wh ac th sx s2 u.2)))) (fun (u : mS) t => mW G u.2 t) (mA G)) 0 0 (mA G) := by
  refine mMet [.ref (h 0), .int ty] (cc := cX6_object) (maxL := 5) (ret := (some .int)) (by decide) rfl (Nat.le_of_ble_eq_true rfl) ?_
  intro p e s m below meth c ls hx hb hr hml hts hown hlk hnm hC hH hl
  have hl : lv_has ls 5 [(0, .ref (h 0)), (1, .int ty)] := hl
  have hI0_ := hI
  have hfr : frM h f f := frM.rf
  obtain ⟨I_1, J_1, hM, hR, hac_1, hth_1⟩ := hI
  have hg_1 := hR.hg40
  have n24_1 := hR.n24
  have tl_1 := len_b hR.ok.2.2.1
  have wl_1 := hR.wl192
  have hgI_1 : (nI hg).toInt = ((hg : Nat) : Int) := nI_toInt (by omega)
  have tmI_1 : (nI ((trS σ).length)).toInt = (((trS σ).length : Nat) : Int) := nI_toInt (by omega)
  have wmI_1 : (nI wl.length).toInt = ((wl.length : Nat) : Int) := nI_toInt (by omega)
  have acI_1 : (nI ac).toInt = ((ac : Nat) : Int) := nI_toInt (by omega)
  have thI_1 : (nI th).toInt = ((th : Nat) : Int) := nI_toInt (by omega)
  have nIn_1 : (nI n).toInt = ((n : Nat) : Int) := nI_toInt (by omega)
  refine lv_iload_n hx hb dX6_object_0 rfl (lv_at hl 1 rfl) ?_
  refine lv_i2l hx hb dX6_object_1 rfl ?_
  refine lv_topl (fun y_2 ey_2 => ?_)
  have iy_2 : y_2.toInt = ty.toInt := lc_i2l ey_2 rfl
  have gy_2 := ic_rng ty
  refine lv_lconst (v := 0) hx hb dX6_object_2 (by decide) ?_
  refine lv_ldc2 (v := 2) hx hb hown (hts (.constantLong RX6 95 (2)) (by decide +kernel)) dX6_object_3 ?_
  refine m_goi hH (va_runS (As := [.long y_2, .long 0, .long 2]) (rest := []) ⟨hx, hb, hml, hown, hts⟩ (c_X6_in l G f y_2 0 2) (va_cwS 3 hts gX6_object_X6_in rfl rfl rfl (by decide +kernel) ⟨Nat.le_of_ble_eq_true rfl, Nat.le_of_ble_eq_true rfl⟩) (m_preS hC hH) rfl rfl hl.1 rfl (lv_room (Nat.le_of_ble_eq_true rfl)) dX6_object_6 ⟨Nat.le_of_ble_eq_true rfl, Nat.le_of_ble_eq_true rfl⟩) (fun r_3 rho_5 f_4 H locs hw hH => ?_)
  obtain ⟨hu, hr_3⟩ := hw
  have hu : f_4 = f := hu
  rw [hu] at hH
  have hr_3 : (r_3.toInt = 1 ∧ 0 ≤ y_2.toInt ∧ y_2.toInt ≤ 2) ∨ (r_3.toInt = 0 ∧ (y_2.toInt < 0 ∨ 2 < y_2.toInt)) := by have q0 := (rfl : y_2.toInt = _); have q1 := kJ_0; have q2 := kJ_2; omega
  refine lv_if_ne (tgt := 14) hx hb dX6_object_9 (by decide) (fun c_6 => ?_) (fun c_6 => ?_)
  · skip
    have ic_6 : (r_3.toInt : Int) ≠ 0 := ic_ne rfl kI_0 c_6
    refine lv_aload_n hx hb dX6_object_14 rfl (lv_at hl 0 rfl) ?_
    have F_7 : f (h 0) = some (.inr (6, [.int (nI n), .ref (h 1), .int (nI hg), .ref (h 3), .ref (h 4), .ref (h 5), .ref (h 6), .int fe, .ref (h 8), .ref (h 9), .ref (h 10), .ref (h 11), .ref (h 12), .ref (h 13), .ref (h 14), .ref (h 15), .int ca, .long (gfS σ), .int wh, .int (nI ((trS σ).length)), .ref (h 20), .ref (h 21), .int (nI wl.length), .ref (h 23), .ref (h 24), .int (nI ac), .ref (h 26), .ref (h 27), .int (nI th), .int sx])) := hM.1
    refine m_get (ci := 6) (v := .int (nI n)) (C := RX6) (T := TX6) (N := 30) hx hb hC hH hts in_X6_object_X6 hown F_7 rfl 0 (by decide) (hts (.fieldLink RX6 74 "LazyStateModel" "objects" "I") (by decide +kernel)) rfl dX6_object_15 ?_
    refine lv_bipush (v := 24) hx hb dX6_object_18 (by decide) ?_
    refine lv_icmp_ne (tgt := 26) hx hb dX6_object_20 (by decide) (fun c_8 => ?_) (fun c_8 => ?_)
    · skip
      have ic_8 : (((n : Nat) : Int) : Int) ≠ 24 := ic_ne nIn_1 kI_24 c_8
      have k0_ := kJ_0
      have k2_ := kJ_2
      refine lv_aload_n hx hb dX6_object_26 rfl (lv_at hl 0 rfl) ?_
      refine m_get (ci := 6) (v := .int (nI n)) (C := RX6) (T := TX6) (N := 30) hx hb hC hH hts in_X6_object_X6 hown F_7 rfl 0 (by decide) (hts (.fieldLink RX6 74 "LazyStateModel" "objects" "I") (by decide +kernel)) rfl dX6_object_27 ?_
      refine lv_istore_n (lv' := [(2, .int (nI n)), (0, .ref (h 0)), (1, .int ty)]) hx hb dX6_object_30 rfl hl (by decide) rfl (fun ls hl => ?_)
      refine lv_aload_n hx hb dX6_object_31 rfl (lv_at hl 1 rfl) ?_
      refine lv_dup hx hb dX6_object_32 rfl ?_
      refine m_get (ci := 6) (v := .int (nI n)) (C := RX6) (T := TX6) (N := 30) hx hb hC hH hts in_X6_object_X6 hown F_7 rfl 0 (by decide) (hts (.fieldLink RX6 74 "LazyStateModel" "objects" "I") (by decide +kernel)) rfl dX6_object_33 ?_
      refine lv_iconst (v := 1) hx hb dX6_object_36 (by decide) ?_
      refine lv_iadd hx hb dX6_object_37 ?_
      refine lv_topi (fun x_9 ex_9 => ?_)
      have ix_9 : x_9.toInt = ((n : Nat) : Int) + 1 := ic_add ex_9 nIn_1 kI_1 (by omega) (by omega)
      refine m_put (ci := 6) (v := .int x_9) (C := RX6) (T := TX6) (N := 30) hx hb hC hH hts in_X6_object_X6 tyX6 tyX6_ok nmX6 hown F_7 rfl 0 (by decide) (hts (.fieldLink RX6 74 "LazyStateModel" "objects" "I") (by decide +kernel)) rfl rfl rfl (Nat.le_of_ble_eq_true rfl) dX6_object_38 (fun H locs hH => ?_)
      have hH : mH G s (va_up f (h 0) (some (.inr (6, [.int x_9, .ref (h 1), .int (nI hg), .ref (h 3), .ref (h 4), .ref (h 5), .ref (h 6), .int fe, .ref (h 8), .ref (h 9), .ref (h 10), .ref (h 11), .ref (h 12), .ref (h 13), .ref (h 14), .ref (h 15), .int ca, .long (gfS σ), .int wh, .int (nI ((trS σ).length)), .ref (h 20), .ref (h 21), .int (nI wl.length), .ref (h 23), .ref (h 24), .int (nI ac), .ref (h 26), .ref (h 27), .int (nI th), .int sx])))) H locs := hH
      obtain ⟨f_10, ef_10⟩ : ∃ zz_ : mF, zz_ = va_up f (h 0) (some (.inr (6, [.int x_9, .ref (h 1), .int (nI hg), .ref (h 3), .ref (h 4), .ref (h 5), .ref (h 6), .int fe, .ref (h 8), .ref (h 9), .ref (h 10), .ref (h 11), .ref (h 12), .ref (h 13), .ref (h 14), .ref (h 15), .int ca, .long (gfS σ), .int wh, .int (nI ((trS σ).length)), .ref (h 20), .ref (h 21), .int (nI wl.length), .ref (h 23), .ref (h 24), .int (nI ac), .ref (h 26), .ref (h 27), .int (nI th), .int sx]))) := ⟨_, rfl⟩
      rw [← ef_10] at hH
      have en_ : x_9 = nI (n + 1) := ic_inj (by omega) (by omega)
      rw [en_] at ef_10
      have nI1_ : (nI (n + 1)).toInt = ((n + 1 : Nat) : Int) := nI_toInt (by omega)
      have hM : MEM G h (n + 1) (nI hg, fe, ca, (gfS σ), wh, nI ((trS σ).length), nI wl.length, nI ac, nI th, sx) I_1 J_1 f_10 := hM.set0 ef_10
      have hfr := hfr.up 0 (by decide) ef_10
      refine lv_aload_n hx hb dX6_object_41 rfl (lv_at hl 1 rfl) ?_
      have F_11 : f_10 (h 0) = some (.inr (6, [.int (nI (n + 1)), .ref (h 1), .int (nI hg), .ref (h 3), .ref (h 4), .ref (h 5), .ref (h 6), .int fe, .ref (h 8), .ref (h 9), .ref (h 10), .ref (h 11), .ref (h 12), .ref (h 13), .ref (h 14), .ref (h 15), .int ca, .long (gfS σ), .int wh, .int (nI ((trS σ).length)), .ref (h 20), .ref (h 21), .int (nI wl.length), .ref (h 23), .ref (h 24), .int (nI ac), .ref (h 26), .ref (h 27), .int (nI th), .int sx])) := hM.1
      refine m_get (ci := 6) (v := .ref (h 1)) (C := RX6) (T := TX6) (N := 30) hx hb hC hH hts in_X6_object_X6 hown F_11 rfl 1 (by decide) (hts (.fieldLink RX6 7 "LazyStateModel" "types" "[I") (by decide +kernel)) rfl dX6_object_42 ?_
      refine lv_iload_n hx hb dX6_object_45 rfl (lv_at hl 0 rfl) ?_
      refine lv_iload_n hx hb dX6_object_46 rfl (lv_at hl 2 rfl) ?_
      have hg_12 : f_10 (h 1) = some (.inl (gk G 0, 24, .inl (I_1 1))) := hM.2.1 1 (by decide) rfl
      refine m_iast hx hb hC hH hg_12 (vp_in_iff.mpr (by rw [nIn_1]; exact ⟨by omega, by omega⟩)) dX6_object_47 (fun H locs hH => ?_)
      obtain ⟨f_13, ef_13⟩ : ∃ zz_ : mF, zz_ = va_up f_10 (h 1) (some (.inl (gk G 0, 24, .inl (upd (I_1 1) ((nI n).toNatClampNeg) ty)))) := ⟨_, rfl⟩
      rw [← ef_13] at hH
      have hM : MEM G h (n + 1) (nI hg, fe, ca, (gfS σ), wh, nI ((trS σ).length), nI wl.length, nI ac, nI th, sx) (va_up I_1 1 (upd (I_1 1) ((nI n).toNatClampNeg) ty)) J_1 f_13 := hM.setI 1 (by decide) rfl ef_13
      have hfr := hfr.up 1 (by decide) ef_13
      have on_ : (nI n).toNatClampNeg = n := nI_cl (by omega)
      rw [on_, show ty = nI ty.toNatClampNeg from (nI_ofC (by omega)).symm] at hM
      have ct_ := ic_clN (rfl : ty.toInt = _) (by omega)
      refine lv_iconst (v := 0) hx hb dX6_object_48 (by decide) ?_
      refine lv_istore_n (lv' := [(3, .int 0), (2, .int (nI n)), (0, .ref (h 0)), (1, .int ty)]) hx hb dX6_object_49 rfl hl (by decide) rfl (fun ls hl => ?_)
      have loop_50 : ∀ (fuel_ : Nat) (k3 : Int32) (fL : mF) (nuL : Nat → Int64) (szL : Nat → Int32) (h0_ : 0 ≤ k3.toInt) (h1_ : k3.toInt ≤ 42) (hfr : frM h f fL) (hM : MEM G h (n + 1) (nI hg, fe, ca, (gfS σ), wh, nI ((trS σ).length), nI wl.length, nI ac, nI th, sx) (va_up (va_up I_1 1 (upd (I_1 1) n (nI ty.toNatClampNeg))) 4 szL) (va_up J_1 3 nuL) fL) (hnu : isF n k3.toNatClampNeg 0 (fstN ty.toNatClampNeg) nuL (J_1 3)) (hsz : isF n k3.toNatClampNeg 0 (fun _ => -3) szL (I_1 4)) (_ : ((42 : Int) - k3.toInt).toNat < fuel_) (H : Heap) (locs : List Loc) (ls : Array Slot) (_ : mH G s fL H locs) (_ : lv_has ls 5 [(0, .ref (h 0)), (1, .int ty), (2, .int (nI n)), (3, .int k3)]), W p l e ({ frames := 2, cells := 0, slots := 0, locals := 45 } : Room) s m ([.ref (h 0), .int ty] : List Value).toArray below meth c H locs (0 + 0) (0 + 0) (MQ below (va_Qi (fun (r : Int32) (u : mS) => frM h f u.2 ∧ (((ty.toInt < 0 ∨ 3 ≤ ty.toInt) ∧ r.toInt = -1 ∧ FM G h n T z A hg ver cq fe tms ca wl wh ac th sx σ u.2) ∨ (0 ≤ ty.toInt ∧ ty.toInt < 3 ∧ n = 24 ∧ r.toInt = -2 ∧ FM G h n T z A hg ver cq fe tms ca wl wh ac th sx σ u.2) ∨ (0 ≤ ty.toInt ∧ ty.toInt < 3 ∧ n < 24 ∧ r.toInt = n ∧ (∃ s2 : tS, ldS s2 = ldS σ ∧ trS s2 = trS σ ∧ gfS s2 = gfS σ ∧ FM G h (n + 1) (va_up T n ty.toNatClampNeg) z A hg (fun a_ => va_up (ver a_) n (fstB ty.toNatClampNeg)) cq fe tms ca wl wh ac th sx s2 u.2)))) (fun (u : mS) t => mW G u.2 t) (mA G)) ([.ref (h 0), .int ty] : List Value).toArray s 0 0 (mA G)) (F0 m 50 ls []) := by
        intro N_50
        induction N_50 with
        | zero => intro k3 fL nuL szL h0_ h1_ hfr hM hnu hsz hN; omega
        | succ N_50 ih_50 =>
          intro k3 fL nuL szL h0_ h1_ hfr hM hnu hsz hN_50 H locs ls hH hl
          refine lv_iload_n hx hb dX6_object_50 rfl (lv_at hl 3 rfl) ?_
          refine lv_bipush (v := 41) hx hb dX6_object_51 (by decide) ?_
          refine lv_icmp_gt (tgt := 86) hx hb dX6_object_53 (by decide) (fun c_14 => ?_) (fun c_14 => ?_)
          · skip
            have ic_14 : (41 : Int) < k3.toInt := ic_lt kI_41 rfl c_14
            refine lv_iload_n hx hb dX6_object_86 rfl (lv_at hl 2 rfl) ?_
            exact m_iret (v := nI n) hx hb hr hlk hC hH (fun _ => (0, 0)) ⟨hfr, Or.inr (Or.inr ⟨by have := kJ_0; have := kJ_2; omega, by have := kJ_0; have := kJ_2; omega, by omega, by have := nIn_1; omega, (by have e42_ : k3.toNatClampNeg = 42 := (by have := ic_clN (rfl : k3.toInt = _) (by omega); omega); rw [e42_] at hnu hsz; obtain ⟨s2_, l1_, l2_, l3_, hR2_⟩ := hR.obj (by omega) (by omega) rfl hnu hsz; exact ⟨s2_, l1_, l2_, l3_, _, _, (by rw [l2_, l3_]; exact hM), hR2_, hac_1, hth_1⟩)⟩)⟩ (Nat.le_of_ble_eq_true rfl) (Nat.le_of_ble_eq_true rfl) dX6_object_87
          · skip
            have ic_14 : (41 : Int) ≥ k3.toInt := ic_nlt kI_41 rfl c_14
            refine lv_iconst (v := 0) hx hb dX6_object_56 (by decide) ?_
            refine lv_istore (lv' := [(4, .int 0), (0, .ref (h 0)), (1, .int ty), (2, .int (nI n)), (3, .int k3)]) hx hb dX6_object_57 hl (by decide) rfl (fun ls hl => ?_)
            have loop_59 : ∀ (fuel_ : Nat) (k4 : Int32) (fM : mF) (nuM : Nat → Int64) (szM : Nat → Int32) (h2_ : 0 ≤ k4.toInt) (h3_ : k4.toInt ≤ 8) (hfr : frM h f fM) (hM : MEM G h (n + 1) (nI hg, fe, ca, (gfS σ), wh, nI ((trS σ).length), nI wl.length, nI ac, nI th, sx) (va_up (va_up I_1 1 (upd (I_1 1) n (nI ty.toNatClampNeg))) 4 szM) (va_up J_1 3 nuM) fM) (hnu : isF n k3.toNatClampNeg k4.toNatClampNeg (fstN ty.toNatClampNeg) nuM (J_1 3)) (hsz : isF n k3.toNatClampNeg k4.toNatClampNeg (fun _ => -3) szM (I_1 4)) (_ : ((8 : Int) - k4.toInt).toNat < fuel_) (H : Heap) (locs : List Loc) (ls : Array Slot) (_ : mH G s fM H locs) (_ : lv_has ls 5 [(0, .ref (h 0)), (1, .int ty), (2, .int (nI n)), (3, .int k3), (4, .int k4)]), W p l e ({ frames := 2, cells := 0, slots := 0, locals := 45 } : Room) s m ([.ref (h 0), .int ty] : List Value).toArray below meth c H locs (0 + 0) (0 + 0) (MQ below (va_Qi (fun (r : Int32) (u : mS) => frM h f u.2 ∧ (((ty.toInt < 0 ∨ 3 ≤ ty.toInt) ∧ r.toInt = -1 ∧ FM G h n T z A hg ver cq fe tms ca wl wh ac th sx σ u.2) ∨ (0 ≤ ty.toInt ∧ ty.toInt < 3 ∧ n = 24 ∧ r.toInt = -2 ∧ FM G h n T z A hg ver cq fe tms ca wl wh ac th sx σ u.2) ∨ (0 ≤ ty.toInt ∧ ty.toInt < 3 ∧ n < 24 ∧ r.toInt = n ∧ (∃ s2 : tS, ldS s2 = ldS σ ∧ trS s2 = trS σ ∧ gfS s2 = gfS σ ∧ FM G h (n + 1) (va_up T n ty.toNatClampNeg) z A hg (fun a_ => va_up (ver a_) n (fstB ty.toNatClampNeg)) cq fe tms ca wl wh ac th sx s2 u.2)))) (fun (u : mS) t => mW G u.2 t) (mA G)) ([.ref (h 0), .int ty] : List Value).toArray s 0 0 (mA G)) (F0 m 59 ls []) := by
              intro N_59
              induction N_59 with
              | zero => intro k4 fM nuM szM h2_ h3_ hfr hM hnu hsz hN; omega
              | succ N_59 ih_59 =>
                intro k4 fM nuM szM h2_ h3_ hfr hM hnu hsz hN_59 H locs ls hH hl
                refine lv_iload hx hb dX6_object_59 (lv_at hl 4 rfl) ?_
                refine lv_bipush (v := 8) hx hb dX6_object_61 (by decide) ?_
                refine lv_icmp_ge (tgt := 80) hx hb dX6_object_63 (by decide) (fun c_15 => ?_) (fun c_15 => ?_)
                · skip
                  have ic_15 : (8 : Int) ≤ k4.toInt := ic_le kI_8 rfl c_15
                  obtain ⟨x_16, ex_16⟩ : ∃ y : Int32, y = k3 + 1 := ⟨_, rfl⟩
                  have ix_16 : x_16.toInt = k3.toInt + 1 := ic_add ex_16 rfl kI_1 (by omega) (by omega)
                  refine lv_iinc (v := x_16) (lv' := [(3, .int x_16), (0, .ref (h 0)), (1, .int ty), (2, .int (nI n)), (4, .int k4)]) hx hb dX6_object_80 hl (k := 3) rfl (by rw [ex_16]; rfl) (by decide) rfl (fun ls hl => ?_)
                  refine lv_goto (tgt := 50) hx hb dX6_object_83 (by decide) ?_
                  exact ih_50 x_16 fM nuM szM (by omega) (by omega) hfr hM (by rw [show x_16.toNatClampNeg = k3.toNatClampNeg + 1 from by have := ic_clN (rfl : x_16.toInt = _) (by omega); have := ic_clN (rfl : k3.toInt = _) (by omega); omega]; exact isF_up (by have e8_ : k4.toNatClampNeg = 8 := (by have := ic_clN (rfl : k4.toInt = _) (by omega); omega); rw [e8_] at hnu; exact hnu)) (by rw [show x_16.toNatClampNeg = k3.toNatClampNeg + 1 from by have := ic_clN (rfl : x_16.toInt = _) (by omega); have := ic_clN (rfl : k3.toInt = _) (by omega); omega]; exact isF_up (by have e8_ : k4.toNatClampNeg = 8 := (by have := ic_clN (rfl : k4.toInt = _) (by omega); omega); rw [e8_] at hsz; exact hsz)) (by omega) _ _ _ hH (lv_sub hl [1, 2, 3, 0] rfl)
                · skip
                  have ic_15 : (8 : Int) > k4.toInt := ic_nle kI_8 rfl c_15
                  refine lv_aload_n hx hb dX6_object_66 rfl (lv_at hl 0 rfl) ?_
                  refine lv_iload_n hx hb dX6_object_67 rfl (lv_at hl 3 rfl) ?_
                  refine lv_iload_n hx hb dX6_object_68 rfl (lv_at hl 2 rfl) ?_
                  refine lv_iload hx hb dX6_object_69 (lv_at hl 4 rfl) ?_
                  have F_17 : fM (h 0) = some (.inr (6, [.int (nI (n + 1)), .ref (h 1), .int (nI hg), .ref (h 3), .ref (h 4), .ref (h 5), .ref (h 6), .int fe, .ref (h 8), .ref (h 9), .ref (h 10), .ref (h 11), .ref (h 12), .ref (h 13), .ref (h 14), .ref (h 15), .int ca, .long (gfS σ), .int wh, .int (nI ((trS σ).length)), .ref (h 20), .ref (h 21), .int (nI wl.length), .ref (h 23), .ref (h 24), .int (nI ac), .ref (h 26), .ref (h 27), .int (nI th), .int sx])) := hM.1
                  refine m_gov hH (va_runV (As := [.int k3, .int (nI n), .int k4]) (rest := []) ⟨hx, hb, hml, hown, hts⟩ (c_X6_first l G h (n + 1) (nI hg, fe, ca, (gfS σ), wh, nI ((trS σ).length), nI wl.length, nI ac, nI th, sx) (va_up (va_up I_1 1 (upd (I_1 1) n (nI ty.toNatClampNeg))) 4 szM) (va_up J_1 3 nuM) fM hM k3 (nI n) k4 (by omega) (by omega) (by omega) ty.toNatClampNeg (by omega) (by show upd (I_1 1) n (nI ty.toNatClampNeg) (nI n).toNatClampNeg = _; rw [show (nI n).toNatClampNeg = n from nI_cl (by omega)]; unfold upd; exact if_pos rfl)) (cwV 3 hts gX6_object_X6_first rfl rfl rfl (by decide +kernel) ⟨Nat.le_of_ble_eq_true rfl, Nat.le_of_ble_eq_true rfl⟩) (m_preV (ci := 6) hC hH F_17 rfl) rfl rfl hl.1 rfl (lv_room (Nat.le_of_ble_eq_true rfl)) dX6_object_71 ⟨Nat.le_of_ble_eq_true rfl, Nat.le_of_ble_eq_true rfl⟩) (fun rho_20 f_19 H locs hw hH => ?_)
                  obtain ⟨hfr1, hM⟩ := hw
                  have hfr1 : frM h fM f_19 := hfr1
                  have hfr := hfr.trans hfr1
                  rw [show (nI n).toNatClampNeg = n from nI_cl (by omega), bx_uu, bx_uu] at hM
                  have hM : MEM G h (n + 1) (nI hg, fe, ca, (gfS σ), wh, nI ((trS σ).length), nI wl.length, nI ac, nI th, sx) (va_up (va_up I_1 1 (upd (I_1 1) n (nI ty.toNatClampNeg))) 4 (upd szM (192 * k3.toNatClampNeg + 8 * n + k4.toNatClampNeg) (-3))) (va_up J_1 3 (vp_updL nuM (192 * k3.toNatClampNeg + 8 * n + k4.toNatClampNeg) (fstN ty.toNatClampNeg k4.toNatClampNeg))) f_19 := hM
                  have ck4_ := ic_clN (rfl : k4.toInt = _) (by omega)
                  have hnu2_ := isF_st (g2 := (vp_updL nuM (192 * k3.toNatClampNeg + 8 * n + k4.toNatClampNeg) (fstN ty.toNatClampNeg k4.toNatClampNeg))) (by omega) (by omega) hnu pk_uLs (fun x_ hx_ => pk_uLn hx_)
                  have hsz2_ := isF_st (g2 := (upd szM (192 * k3.toNatClampNeg + 8 * n + k4.toNatClampNeg) (-3))) (by omega) (by omega) hsz pk_us (fun x_ hx_ => pk_un hx_)
                  obtain ⟨x_21, ex_21⟩ : ∃ y : Int32, y = k4 + 1 := ⟨_, rfl⟩
                  have ix_21 : x_21.toInt = k4.toInt + 1 := ic_add ex_21 rfl kI_1 (by omega) (by omega)
                  refine lv_iinc (v := x_21) (lv' := [(4, .int x_21), (0, .ref (h 0)), (1, .int ty), (2, .int (nI n)), (3, .int k3)]) hx hb dX6_object_74 hl (k := 4) rfl (by rw [ex_21]; rfl) (by decide) rfl (fun ls hl => ?_)
                  refine lv_goto (tgt := 59) hx hb dX6_object_77 (by decide) ?_
                  exact ih_59 x_21 f_19 (vp_updL nuM (192 * k3.toNatClampNeg + 8 * n + k4.toNatClampNeg) (fstN ty.toNatClampNeg k4.toNatClampNeg)) (upd szM (192 * k3.toNatClampNeg + 8 * n + k4.toNatClampNeg) (-3)) (by omega) (by omega) hfr hM (by rw [show x_21.toNatClampNeg = k4.toNatClampNeg + 1 from by have := ic_clN (rfl : x_21.toInt = _) (by omega); have := ic_clN (rfl : k4.toInt = _) (by omega); omega]; exact hnu2_) (by rw [show x_21.toNatClampNeg = k4.toNatClampNeg + 1 from by have := ic_clN (rfl : x_21.toInt = _) (by omega); have := ic_clN (rfl : k4.toInt = _) (by omega); omega]; exact hsz2_) (by omega) _ _ _ hH (lv_sub hl [1, 2, 3, 4, 0] rfl)
            exact loop_59 (((8 : Int) - 0).toNat + 1) 0 fL nuL szL (by have := kI_0; omega) (by have := kI_0; omega) hfr hM hnu hsz (by have := kI_0; omega) _ _ _ hH (lv_sub hl [1, 2, 3, 4, 0] rfl)
      exact loop_50 (((42 : Int) - 0).toNat + 1) 0 f_13 (J_1 3) (I_1 4) (by have := kI_0; omega) (by have := kI_0; omega) hfr (by rw [show va_up J_1 3 (J_1 3) = J_1 from va_up_id _ _]; exact hM.idI 4) isF_0 isF_0 (by have := kI_0; omega) _ _ _ hH (lv_sub hl [2, 3, 1, 0] rfl)
    · skip
      have ic_8 : (((n : Nat) : Int) : Int) = 24 := ic_eq nIn_1 kI_24 c_8
      refine lv_bipush (v := (-2)) hx hb dX6_object_23 (by decide) ?_
      exact m_iret (v := (-2)) hx hb hr hlk hC hH (fun _ => (0, 0)) ⟨hfr, Or.inr (Or.inl ⟨by have := kJ_0; have := kJ_2; omega, by have := kJ_0; have := kJ_2; omega, by omega, kI_m2, ⟨_, _, hM, hR, hac_1, hth_1⟩⟩)⟩ (Nat.le_of_ble_eq_true rfl) (Nat.le_of_ble_eq_true rfl) dX6_object_25
  · skip
    have ic_6 : (r_3.toInt : Int) = 0 := ic_eq rfl kI_0 c_6
    refine lv_iconst (v := (-1)) hx hb dX6_object_12 (by decide) ?_
    exact m_iret (v := (-1)) hx hb hr hlk hC hH (fun _ => (0, 0)) ⟨hfr, Or.inl ⟨by have := kJ_0; have := kJ_2; omega, kI_m1, ⟨_, _, hM, hR, hac_1, hth_1⟩⟩⟩ (Nat.le_of_ble_eq_true rfl) (Nat.le_of_ble_eq_true rfl) dX6_object_13
