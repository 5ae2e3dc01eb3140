set_option maxHeartbeats 4000000 in
set_option maxRecDepth 100000 in
theorem c_X6_object (l : Launch) (G : mG) (h : Nat → Nat) (n0 : Nat) (T0 : Nat → Int32) (z : Nat → Nat) (A : Nat → tA) (f : mF) (hI0 : IM G h n0 T0 z A f) (ty : Int32) : Met l yX6_object wsX6_object ({ frames := 2, cells := 0, slots := 0, locals := 45 }) (va_Pc [.ref (h 0), .int ty] (mW G f)) (va_Qi (fun (r : Int32) (u : mS) => frM h f u.2 ∧ (((ty.toInt < 0 ∨ 3 ≤ ty.toInt) ∧ r.toInt = -1 ∧ IM G h n0 T0 z A u.2) ∨ (0 ≤ ty.toInt ∧ ty.toInt < 3 ∧ n0 = 24 ∧ r.toInt = -2 ∧ IM G h n0 T0 z A u.2) ∨ (0 ≤ ty.toInt ∧ ty.toInt < 3 ∧ n0 < 24 ∧ r.toInt = n0 ∧ IM G h (n0 + 1) (upd T0 n0 ty) z A u.2))) (fun (u : mS) t => mW G u.2 t) (mA G)) 0 0 (mA G) := by
  refine mMet [.ref (h 0), .int ty] (cc := cX6_object) (maxL := 5) (ret := (some .int)) (by decide) rfl (Nat.le_of_ble_eq_true rfl) ?_
  intro p e s m below meth c ls hx hb hr hml hts hown hlk hnm hC hH hl
  have hl : lv_has ls 5 [(0, .ref (h 0)), (1, .int ty)] := hl
  obtain ⟨n, T, en0, eT0, hI⟩ : ∃ (n : Nat) (T : Nat → Int32), n = n0 ∧ T = T0 ∧ IM G h n T z A f := ⟨n0, T0, rfl, rfl, hI0⟩
  have hj := hI.2.2.1
  have hn24 := hI.2.2.2.1
  have nIn : (nI n).toInt = (n : Int) := nI_toInt (by omega)
  have hfr : frM h f f := frM.rf
  have hkp : kpM h f f := kpM.rf
  refine lv_iload_n hx hb dX6_object_0 rfl (lv_at hl 1 rfl) ?_
  refine lv_i2l hx hb dX6_object_1 rfl ?_
  refine lv_topl (fun y_1 ey_1 => ?_)
  have iy_1 : y_1.toInt = ty.toInt := lc_i2l ey_1 rfl
  have gy_1 := ic_rng ty
  refine lv_lconst (v := 0) hx hb dX6_object_2 (by decide) ?_
  refine lv_ldc2 (v := 2) hx hb hown (hts (.constantLong RX6 95 (2)) (by decide +kernel)) dX6_object_3 ?_
  refine m_goi hH (va_runS (As := [.long y_1, .long 0, .long 2]) (rest := []) ⟨hx, hb, hml, hown, hts⟩ (c_X6_in l G f y_1 0 2) (va_cwS 3 hts gX6_object_X6_in rfl rfl rfl (by decide +kernel) ⟨Nat.le_of_ble_eq_true rfl, Nat.le_of_ble_eq_true rfl⟩) (m_preS hC hH) rfl rfl hl.1 rfl (lv_room (Nat.le_of_ble_eq_true rfl)) dX6_object_6 ⟨Nat.le_of_ble_eq_true rfl, Nat.le_of_ble_eq_true rfl⟩) (fun r_2 rho_4 f_3 H locs hw hH => ?_)
  obtain ⟨hu, hr_2⟩ := hw
  have hu : f_3 = f := hu
  rw [hu] at hH
  have hr_2 : (r_2.toInt = 1 ∧ 0 ≤ y_1.toInt ∧ y_1.toInt ≤ 2) ∨ (r_2.toInt = 0 ∧ (y_1.toInt < 0 ∨ 2 < y_1.toInt)) := by have q0 := (rfl : y_1.toInt = _); have q1 := kJ_0; have q2 := kJ_2; omega
  refine lv_if_ne (tgt := 14) hx hb dX6_object_9 (by decide) (fun c_5 => ?_) (fun c_5 => ?_)
  · skip
    have ic_5 : (r_2.toInt : Int) ≠ 0 := ic_ne rfl kI_0 c_5
    refine lv_aload_n hx hb dX6_object_14 rfl (lv_at hl 0 rfl) ?_
    obtain ⟨he_6, fe_6, ca_6, ga_6, wh_6, tm_6, wm_6, ac_6, th_6, st_6, F_6, b1_6, b2_6, b3_6, b4_6, b5_6, b6_6, b7_6, b8_6⟩ : okM0 h n (f (h 0)) := hI.1 0 (by decide)
    refine m_get (ci := 6) (v := .int (nI n)) (C := RX6) (T := TX6) (N := 30) hx hb hC hH hts in_X6_object_X6 hown F_6 rfl 0 (by decide) (hts (.fieldLink RX6 74 "LazyStateModel" "objects" "I") (by decide +kernel)) rfl dX6_object_15 ?_
    refine lv_bipush (v := 24) hx hb dX6_object_18 (by decide) ?_
    refine lv_icmp_ne (tgt := 26) hx hb dX6_object_20 (by decide) (fun c_7 => ?_) (fun c_7 => ?_)
    · skip
      have ic_7 : ((n : Int) : Int) ≠ 24 := ic_ne nIn kI_24 c_7
      refine lv_aload_n hx hb dX6_object_26 rfl (lv_at hl 0 rfl) ?_
      refine m_get (ci := 6) (v := .int (nI n)) (C := RX6) (T := TX6) (N := 30) hx hb hC hH hts in_X6_object_X6 hown F_6 rfl 0 (by decide) (hts (.fieldLink RX6 74 "LazyStateModel" "objects" "I") (by decide +kernel)) rfl dX6_object_27 ?_
      obtain ⟨o_, eo_⟩ : ∃ o : Int32, o = nI n := ⟨_, rfl⟩
      rw [← eo_]
      have io_ : o_.toInt = (n : Int) := by rw [eo_]; exact nIn
      refine lv_istore_n (lv' := [(2, .int o_), (0, .ref (h 0)), (1, .int ty)]) hx hb dX6_object_30 rfl hl (by decide) rfl (fun ls hl => ?_)
      obtain ⟨g_8, hg_8, hp_8⟩ : okI G 0 24 (fun g => ∀ o, o < n → g o = T o) (f (h 1)) := hI.1 1 (by decide)
      have Fo_ := F_6
      have Fa_ := hg_8
      refine lv_aload_n hx hb dX6_object_31 rfl (lv_at hl 1 rfl) ?_
      refine lv_dup hx hb dX6_object_32 rfl ?_
      refine m_get (ci := 6) (v := .int (nI n)) (C := RX6) (T := TX6) (N := 30) hx hb hC hH hts in_X6_object_X6 hown F_6 rfl 0 (by decide) (hts (.fieldLink RX6 74 "LazyStateModel" "objects" "I") (by decide +kernel)) rfl dX6_object_33 ?_
      refine lv_iconst (v := 1) hx hb dX6_object_36 (by decide) ?_
      refine lv_iadd hx hb dX6_object_37 ?_
      refine lv_topi (fun x_9 ex_9 => ?_)
      have ix_9 : x_9.toInt = (n : Int) + 1 := ic_add ex_9 nIn kI_1 (by omega) (by omega)
      refine m_put (ci := 6) (v := .int x_9) (C := RX6) (T := TX6) (N := 30) hx hb hC hH hts in_X6_object_X6 tyX6 tyX6_ok nmX6 hown F_6 rfl 0 (by decide) (hts (.fieldLink RX6 74 "LazyStateModel" "objects" "I") (by decide +kernel)) rfl rfl rfl (Nat.le_of_ble_eq_true rfl) dX6_object_38 (fun H locs hH => ?_)
      have hH : mH G s (va_up f (h 0) (some (.inr (6, [.int x_9, .ref (h 1), .int he_6, .ref (h 3), .ref (h 4), .ref (h 5), .ref (h 6), .int fe_6, .ref (h 8), .ref (h 9), .ref (h 10), .ref (h 11), .ref (h 12), .ref (h 13), .ref (h 14), .ref (h 15), .int ca_6, .long ga_6, .int wh_6, .int tm_6, .ref (h 20), .ref (h 21), .int wm_6, .ref (h 23), .ref (h 24), .int ac_6, .ref (h 26), .ref (h 27), .int th_6, .int st_6])))) H locs := hH
      obtain ⟨f_10, ef_10⟩ : ∃ zz_ : mF, zz_ = va_up f (h 0) (some (.inr (6, [.int x_9, .ref (h 1), .int he_6, .ref (h 3), .ref (h 4), .ref (h 5), .ref (h 6), .int fe_6, .ref (h 8), .ref (h 9), .ref (h 10), .ref (h 11), .ref (h 12), .ref (h 13), .ref (h 14), .ref (h 15), .int ca_6, .long ga_6, .int wh_6, .int tm_6, .ref (h 20), .ref (h 21), .int wm_6, .ref (h 23), .ref (h 24), .int ac_6, .ref (h 26), .ref (h 27), .int th_6, .int st_6]))) := ⟨_, rfl⟩
      rw [← ef_10] at hH
      have F_11 : f_10 (h 0) = some (.inr (6, [.int x_9, .ref (h 1), .int he_6, .ref (h 3), .ref (h 4), .ref (h 5), .ref (h 6), .int fe_6, .ref (h 8), .ref (h 9), .ref (h 10), .ref (h 11), .ref (h 12), .ref (h 13), .ref (h 14), .ref (h 15), .int ca_6, .long ga_6, .int wh_6, .int tm_6, .ref (h 20), .ref (h 21), .int wm_6, .ref (h 23), .ref (h 24), .int ac_6, .ref (h 26), .ref (h 27), .int th_6, .int st_6])) := by rw [ef_10]; exact va_up_self _ _ _
      have okn_ : okM0 h (n + 1) (some (.inr (6, [.int x_9, .ref (h 1), .int he_6, .ref (h 3), .ref (h 4), .ref (h 5), .ref (h 6), .int fe_6, .ref (h 8), .ref (h 9), .ref (h 10), .ref (h 11), .ref (h 12), .ref (h 13), .ref (h 14), .ref (h 15), .int ca_6, .long ga_6, .int wh_6, .int tm_6, .ref (h 20), .ref (h 21), .int wm_6, .ref (h 23), .ref (h 24), .int ac_6, .ref (h 26), .ref (h 27), .int th_6, .int st_6]))) := ⟨_, _, _, _, _, _, _, _, _, _, by rw [ic_inj (x := x_9) (n := n + 1) (by omega) (by omega)], by omega, by omega, by omega, by omega, by omega, by omega, by omega, by omega⟩
      have hfr := hfr.up 0 (by decide) ef_10
      have hkp := hkp.obj F_6 F_11 rfl rfl rfl
      have hg_12 := upk hg_8 ef_10 (neM hj (by decide) (by decide) (by decide))
      refine lv_aload_n hx hb dX6_object_41 rfl (lv_at hl 1 rfl) ?_
      refine m_get (ci := 6) (v := .ref (h 1)) (C := RX6) (T := TX6) (N := 30) hx hb hC hH hts in_X6_object_X6 hown F_11 rfl 1 (by decide) (hts (.fieldLink RX6 7 "LazyStateModel" "types" "[I") (by decide +kernel)) rfl dX6_object_42 ?_
      refine lv_iload_n hx hb dX6_object_45 rfl (lv_at hl 0 rfl) ?_
      refine lv_iload_n hx hb dX6_object_46 rfl (lv_at hl 2 rfl) ?_
      refine m_iast hx hb hC hH hg_12 (vp_in_iff.mpr ⟨by omega, by omega⟩) dX6_object_47 (fun H locs hH => ?_)
      obtain ⟨f_13, ef_13⟩ : ∃ zz_ : mF, zz_ = va_up f_10 (h 1) (some (.inl (gk G 0, 24, .inl (upd g_8 o_.toNatClampNeg ty)))) := ⟨_, rfl⟩
      rw [← ef_13] at hH
      have F_14 := upk F_11 ef_13 (neM hj (by decide) (by decide) (by decide))
      have hg_ := hI.grow (by omega) (o := o_.toNatClampNeg) (by have := ic_clN (rfl : o_.toInt = _) (by omega); omega) Fa_ Fo_ (by rfl) okn_ ef_10 ef_13
      rw [en0, eT0] at hg_
      have en2_ : o_.toInt = (n0 : Int) := by omega
      obtain ⟨n, T, en1, eT1, hI⟩ : ∃ (n2 : Nat) (T2 : Nat → Int32), n2 = n0 + 1 ∧ T2 = upd T0 n0 ty ∧ IM G h n2 T2 z A f_13 := ⟨_, _, rfl, rfl, hg_⟩
      have hj := hI.2.2.1
      have hn24 := hI.2.2.2.1
      have nIn : (nI n).toInt = (n : Int) := nI_toInt (by omega)
      have hfr := hfr.up 1 (by decide) ef_13
      have hkp := hkp.up 1 hj (by decide) (by decide) ef_13
      have hkp : kpM h f_13 f_13 := kpM.rf
      refine lv_iconst (v := 0) hx hb dX6_object_48 (by decide) ?_
      refine lv_istore_n (lv' := [(3, .int 0), (2, .int o_), (0, .ref (h 0)), (1, .int ty)]) hx hb dX6_object_49 rfl hl (by decide) rfl (fun ls hl => ?_)
      have loop_50 : ∀ (fuel_ : Nat) (k3 : Int32) (fL : mF) (h0_ : 0 ≤ k3.toInt) (h1_ : k3.toInt ≤ 42) (hI : IM G h n T z A fL) (hfr : frM h f fL) (hkp : kpM h f_13 fL) (_ : ((42 : Int) - k3.toInt).toNat < fuel_) (H : Heap) (locs : List Loc) (ls : Array Slot) (_ : mH G s fL H locs) (_ : lv_has ls 5 [(0, .ref (h 0)), (1, .int ty), (2, .int o_), (3, .int k3)]), W p l e ({ frames := 2, cells := 0, slots := 0, locals := 45 } : Room) s m ([.ref (h 0), .int ty] : List Value).toArray below meth c H locs (0 + 0) (0 + 0) (MQ below (va_Qi (fun (r : Int32) (u : mS) => frM h f u.2 ∧ (((ty.toInt < 0 ∨ 3 ≤ ty.toInt) ∧ r.toInt = -1 ∧ IM G h n0 T0 z A u.2) ∨ (0 ≤ ty.toInt ∧ ty.toInt < 3 ∧ n0 = 24 ∧ r.toInt = -2 ∧ IM G h n0 T0 z A u.2) ∨ (0 ≤ ty.toInt ∧ ty.toInt < 3 ∧ n0 < 24 ∧ r.toInt = n0 ∧ IM G h (n0 + 1) (upd T0 n0 ty) z A u.2))) (fun (u : mS) t => mW G u.2 t) (mA G)) ([.ref (h 0), .int ty] : List Value).toArray s 0 0 (mA G)) (F0 m 50 ls []) := by
        intro N_50
        induction N_50 with
        | zero => intro k3 fL h0_ h1_ hI hfr hkp hN; omega
        | succ N_50 ih_50 =>
          intro k3 fL h0_ h1_ hI hfr hkp hN_50 H locs ls hH hl
          refine lv_iload_n hx hb dX6_object_50 rfl (lv_at hl 3 rfl) ?_
          refine lv_bipush (v := 41) hx hb dX6_object_51 (by decide) ?_
          refine lv_icmp_gt (tgt := 86) hx hb dX6_object_53 (by decide) (fun c_15 => ?_) (fun c_15 => ?_)
          · skip
            have ic_15 : (41 : Int) < k3.toInt := ic_lt kI_41 rfl c_15
            refine lv_iload_n hx hb dX6_object_86 rfl (lv_at hl 2 rfl) ?_
            exact m_iret (v := o_) hx hb hr hlk hC hH (fun _ => (0, 0)) ⟨hfr, Or.inr (Or.inr ⟨by omega, by omega, by omega, by omega, by rw [← en1, ← eT1]; exact hI⟩)⟩ (Nat.le_of_ble_eq_true rfl) (Nat.le_of_ble_eq_true rfl) dX6_object_87
          · skip
            have ic_15 : (41 : Int) ≥ k3.toInt := ic_nlt kI_41 rfl c_15
            refine lv_iconst (v := 0) hx hb dX6_object_56 (by decide) ?_
            refine lv_istore (lv' := [(4, .int 0), (0, .ref (h 0)), (1, .int ty), (2, .int o_), (3, .int k3)]) hx hb dX6_object_57 hl (by decide) rfl (fun ls hl => ?_)
            have loop_59 : ∀ (fuel_ : Nat) (k4 : Int32) (fL : mF) (h0_ : 0 ≤ k4.toInt) (h1_ : k4.toInt ≤ 8) (hI : IM G h n T z A fL) (hfr : frM h f fL) (hkp : kpM h f_13 fL) (_ : ((8 : Int) - k4.toInt).toNat < fuel_) (H : Heap) (locs : List Loc) (ls : Array Slot) (_ : mH G s fL H locs) (_ : lv_has ls 5 [(0, .ref (h 0)), (1, .int ty), (2, .int o_), (3, .int k3), (4, .int k4)]), W p l e ({ frames := 2, cells := 0, slots := 0, locals := 45 } : Room) s m ([.ref (h 0), .int ty] : List Value).toArray below meth c H locs (0 + 0) (0 + 0) (MQ below (va_Qi (fun (r : Int32) (u : mS) => frM h f u.2 ∧ (((ty.toInt < 0 ∨ 3 ≤ ty.toInt) ∧ r.toInt = -1 ∧ IM G h n0 T0 z A u.2) ∨ (0 ≤ ty.toInt ∧ ty.toInt < 3 ∧ n0 = 24 ∧ r.toInt = -2 ∧ IM G h n0 T0 z A u.2) ∨ (0 ≤ ty.toInt ∧ ty.toInt < 3 ∧ n0 < 24 ∧ r.toInt = n0 ∧ IM G h (n0 + 1) (upd T0 n0 ty) z A u.2))) (fun (u : mS) t => mW G u.2 t) (mA G)) ([.ref (h 0), .int ty] : List Value).toArray s 0 0 (mA G)) (F0 m 59 ls []) := by
              intro N_59
              induction N_59 with
              | zero => intro k4 fL h0_ h1_ hI hfr hkp hN; omega
              | succ N_59 ih_59 =>
                intro k4 fL h0_ h1_ hI hfr hkp hN_59 H locs ls hH hl
                refine lv_iload hx hb dX6_object_59 (lv_at hl 4 rfl) ?_
                refine lv_bipush (v := 8) hx hb dX6_object_61 (by decide) ?_
                refine lv_icmp_ge (tgt := 80) hx hb dX6_object_63 (by decide) (fun c_16 => ?_) (fun c_16 => ?_)
                · skip
                  have ic_16 : (8 : Int) ≤ k4.toInt := ic_le kI_8 rfl c_16
                  obtain ⟨x_17, ex_17⟩ : ∃ y : Int32, y = k3 + 1 := ⟨_, rfl⟩
                  have ix_17 : x_17.toInt = k3.toInt + 1 := ic_add ex_17 rfl kI_1 (by omega) (by omega)
                  refine lv_iinc (v := x_17) (lv' := [(3, .int x_17), (0, .ref (h 0)), (1, .int ty), (2, .int o_), (4, .int k4)]) hx hb dX6_object_80 hl (k := 3) rfl (by rw [ex_17]; rfl) (by decide) rfl (fun ls hl => ?_)
                  refine lv_goto (tgt := 50) hx hb dX6_object_83 (by decide) ?_
                  exact ih_50 x_17 fL (by omega) (by omega) hI hfr hkp (by omega) _ _ _ hH (lv_sub hl [1, 2, 3, 0] rfl)
                · skip
                  have ic_16 : (8 : Int) > k4.toInt := ic_nle kI_8 rfl c_16
                  refine lv_aload_n hx hb dX6_object_66 rfl (lv_at hl 0 rfl) ?_
                  refine lv_iload_n hx hb dX6_object_67 rfl (lv_at hl 3 rfl) ?_
                  refine lv_iload_n hx hb dX6_object_68 rfl (lv_at hl 2 rfl) ?_
                  refine lv_iload hx hb dX6_object_69 (lv_at hl 4 rfl) ?_
                  obtain ⟨he_18, fe_18, ca_18, ga_18, wh_18, tm_18, wm_18, ac_18, th_18, st_18, F_18, b1_18, b2_18, b3_18, b4_18, b5_18, b6_18, b7_18, b8_18⟩ : okM0 h n (fL (h 0)) := hI.1 0 (by decide)
                  refine m_gov hH (va_runV (As := [.int k3, .int o_, .int k4]) (rest := []) ⟨hx, hb, hml, hown, hts⟩ (c_X6_first l G h n T z A fL hI k3 o_ k4 (by omega) (by omega) (by omega)) (cwV 3 hts gX6_object_X6_first rfl rfl rfl (by decide +kernel) ⟨Nat.le_of_ble_eq_true rfl, Nat.le_of_ble_eq_true rfl⟩) (m_preV (ci := 6) hC hH F_18 rfl) rfl rfl hl.1 rfl (lv_room (Nat.le_of_ble_eq_true rfl)) dX6_object_71 ⟨Nat.le_of_ble_eq_true rfl, Nat.le_of_ble_eq_true rfl⟩) (fun rho_21 f_20 H locs hw hH => ?_)
                  obtain ⟨hI, hfr1, hkp1⟩ := hw
                  have hI : IM G h n T z A f_20 := hI
                  have hfr1 : frM h fL f_20 := hfr1
                  have hkp1 : kpM h fL f_20 := hkp1
                  have hfr := hfr.trans hfr1
                  have hkp := hkp.trans hkp1
                  obtain ⟨he_22, fe_22, ca_22, ga_22, wh_22, tm_22, wm_22, ac_22, th_22, st_22, F_22, b1_22, b2_22, b3_22, b4_22, b5_22, b6_22, b7_22, b8_22⟩ : okM0 h n (f_20 (h 0)) := hI.1 0 (by decide)
                  have kk_wm_22 : wm_22.toInt = wm_18.toInt := (congrArg Int32.toInt (show wm_22 = wm_18 from Value.int.inj (by have q := hkp1.1; rw [fldV_eq F_22, fldV_eq F_18] at q; exact q))).trans rfl
                  have kk_ac_22 : ac_22.toInt = ac_18.toInt := (congrArg Int32.toInt (show ac_22 = ac_18 from Value.int.inj (by have q := hkp1.2.1; rw [fldV_eq F_22, fldV_eq F_18] at q; exact q))).trans rfl
                  have kk_he_22 : he_22.toInt = he_18.toInt := (congrArg Int32.toInt (show he_22 = he_18 from Value.int.inj (by have q := hkp1.2.2; rw [fldV_eq F_22, fldV_eq F_18] at q; exact q))).trans rfl
                  obtain ⟨x_23, ex_23⟩ : ∃ y : Int32, y = k4 + 1 := ⟨_, rfl⟩
                  have ix_23 : x_23.toInt = k4.toInt + 1 := ic_add ex_23 rfl kI_1 (by omega) (by omega)
                  refine lv_iinc (v := x_23) (lv' := [(4, .int x_23), (0, .ref (h 0)), (1, .int ty), (2, .int o_), (3, .int k3)]) hx hb dX6_object_74 hl (k := 4) rfl (by rw [ex_23]; rfl) (by decide) rfl (fun ls hl => ?_)
                  refine lv_goto (tgt := 59) hx hb dX6_object_77 (by decide) ?_
                  exact ih_59 x_23 f_20 (by omega) (by omega) hI hfr hkp (by omega) _ _ _ hH (lv_sub hl [1, 2, 3, 4, 0] rfl)
            exact loop_59 (((8 : Int) - 0).toNat + 1) 0 fL (by have := kI_0; omega) (by have := kI_0; omega) hI hfr hkp (by have := kI_0; omega) _ _ _ hH (lv_sub hl [1, 2, 3, 4, 0] rfl)
      exact loop_50 (((42 : Int) - 0).toNat + 1) 0 f_13 (by have := kI_0; omega) (by have := kI_0; omega) hI hfr hkp (by have := kI_0; omega) _ _ _ hH (lv_sub hl [2, 3, 1, 0] rfl)
    · skip
      have ic_7 : ((n : Int) : Int) = 24 := ic_eq nIn kI_24 c_7
      refine lv_bipush (v := (-2)) hx hb dX6_object_23 (by decide) ?_
      exact m_iret (v := (-2)) hx hb hr hlk hC hH (fun _ => (0, 0)) ⟨hfr, Or.inr (Or.inl ⟨by omega, by omega, by omega, kI_m2, by rw [← en0, ← eT0]; exact hI⟩)⟩ (Nat.le_of_ble_eq_true rfl) (Nat.le_of_ble_eq_true rfl) dX6_object_25
  · skip
    have ic_5 : (r_2.toInt : Int) = 0 := ic_eq rfl kI_0 c_5
    refine lv_iconst (v := (-1)) hx hb dX6_object_12 (by decide) ?_
    exact m_iret (v := (-1)) hx hb hr hlk hC hH (fun _ => (0, 0)) ⟨hfr, Or.inl ⟨by omega, kI_m1, by rw [← en0, ← eT0]; exact hI⟩⟩ (Nat.le_of_ble_eq_true rfl) (Nat.le_of_ble_eq_true rfl) dX6_object_13
set_option maxHeartbeats 4000000 in
set_option maxRecDepth 100000 in
theorem c_X6_act (l : Launch) (G : mG) (h : Nat → Nat) (n : Nat) (T : Nat → Int32) (z : Nat → Nat) (A : Nat → tA) (f : mF) (hI : IM G h n T z A f) (b kd a : Int32) (bb : Int64) (c_ d_ e_ : Int32) : Met l yX6_act wsX6_act ({ frames := 3, cells := 0, slots := 0, locals := 72 }) (va_Pc [.ref (h 0), .int b, .int kd, .int a, .long bb, .int c_, .int d_, .int e_] (mW G f)) (va_Qi (fun (r : Int32) (u : mS) => frM h f u.2 ∧ ((¬ (0 ≤ b.toInt ∧ b.toInt < 6 ∧ okA (kd, a, bb, c_, d_, e_)) ∧ r.toInt = -1 ∧ IM G h n T z A u.2) ∨ ((0 ≤ b.toInt ∧ b.toInt < 6 ∧ okA (kd, a, bb, c_, d_, e_)) ∧ z b.toNatClampNeg = 32 ∧ r.toInt = -2 ∧ IM G h n T z A u.2) ∨ ((0 ≤ b.toInt ∧ b.toInt < 6 ∧ okA (kd, a, bb, c_, d_, e_)) ∧ z b.toNatClampNeg < 32 ∧ r.toInt = z b.toNatClampNeg ∧ IM G h n T (fun q => if q = b.toNatClampNeg then z q + 1 else z q) (fun q => if q = 32 * b.toNatClampNeg + z b.toNatClampNeg then (kd, a, bb, c_, d_, e_) else A q) u.2))) (fun (u : mS) t => mW G u.2 t) (mA G)) 0 0 (mA G) := by
  refine mMet [.ref (h 0), .int b, .int kd, .int a, .long bb, .int c_, .int d_, .int e_] (cc := cX6_act) (maxL := 10) (ret := (some .int)) (by decide) rfl (Nat.le_of_ble_eq_true rfl) ?_
  intro p e s m below meth c ls hx hb hr hml hts hown hlk hnm hC hH hl
  have hl : lv_has ls 10 [(0, .ref (h 0)), (1, .int b), (2, .int kd), (3, .int a), (4, .long bb), (6, .int c_), (7, .int d_), (8, .int e_)] := hl
  have hj := hI.2.2.1
  have hn24 := hI.2.2.2.1
  have nIn : (nI n).toInt = (n : Int) := nI_toInt (by omega)
  have hfr : frM h f f := frM.rf
  have hkp : kpM h f f := kpM.rf
  refine lv_iload_n hx hb dX6_act_0 rfl (lv_at hl 1 rfl) ?_
  refine lv_i2l hx hb dX6_act_1 rfl ?_
  refine lv_topl (fun y_1 ey_1 => ?_)
  have iy_1 : y_1.toInt = b.toInt := lc_i2l ey_1 rfl
  have gy_1 := ic_rng b
  refine lv_lconst (v := 0) hx hb dX6_act_2 (by decide) ?_
  refine lv_ldc2 (v := 5) hx hb hown (hts (.constantLong RX6 143 (5)) (by decide +kernel)) dX6_act_3 ?_
  refine m_goi hH (va_runS (As := [.long y_1, .long 0, .long 5]) (rest := []) ⟨hx, hb, hml, hown, hts⟩ (c_X6_in l G f y_1 0 5) (va_cwS 3 hts gX6_act_X6_in rfl rfl rfl (by decide +kernel) ⟨Nat.le_of_ble_eq_true rfl, Nat.le_of_ble_eq_true rfl⟩) (m_preS hC hH) rfl rfl hl.1 rfl (lv_room (Nat.le_of_ble_eq_true rfl)) dX6_act_6 ⟨Nat.le_of_ble_eq_true rfl, Nat.le_of_ble_eq_true rfl⟩) (fun r_2 rho_4 f_3 H locs hw hH => ?_)
  obtain ⟨hu, hr_2⟩ := hw
  have hu : f_3 = f := hu
  rw [hu] at hH
  have hr_2 : (r_2.toInt = 1 ∧ 0 ≤ y_1.toInt ∧ y_1.toInt ≤ 5) ∨ (r_2.toInt = 0 ∧ (y_1.toInt < 0 ∨ 5 < y_1.toInt)) := by have q0 := (rfl : y_1.toInt = _); have q1 := kJ_0; have q2 := kJ_5; omega
  refine lv_if_eq (tgt := 28) hx hb dX6_act_9 (by decide) (fun c_5 => ?_) (fun c_5 => ?_)
  · skip
    have ic_5 : (r_2.toInt : Int) = 0 := ic_eq rfl kI_0 c_5
    refine lv_iconst (v := (-1)) hx hb dX6_act_28 (by decide) ?_
    exact m_iret (v := (-1)) hx hb hr hlk hC hH (fun _ => (0, 0)) ⟨hfr, Or.inl ⟨fun q_ => by omega, kI_m1, hI⟩⟩ (Nat.le_of_ble_eq_true rfl) (Nat.le_of_ble_eq_true rfl) dX6_act_29
  · skip
    have ic_5 : (r_2.toInt : Int) ≠ 0 := ic_ne rfl kI_0 c_5
    refine lv_iload_n hx hb dX6_act_12 rfl (lv_at hl 2 rfl) ?_
    refine lv_iload_n hx hb dX6_act_13 rfl (lv_at hl 3 rfl) ?_
    refine lv_lload hx hb dX6_act_14 (lv_at hl 4 rfl) ?_
    refine lv_iload hx hb dX6_act_16 (lv_at hl 5 rfl) ?_
    refine lv_iload hx hb dX6_act_18 (lv_at hl 6 rfl) ?_
    refine lv_iload hx hb dX6_act_20 (lv_at hl 7 rfl) ?_
    refine m_goi hH (va_runS (As := [.int kd, .int a, .long bb, .int c_, .int d_, .int e_]) (rest := []) ⟨hx, hb, hml, hown, hts⟩ (c_X6_isAct l G f kd a bb c_ d_ e_) (va_cwS 6 hts gX6_act_X6_isAct rfl rfl rfl (by decide +kernel) ⟨Nat.le_of_ble_eq_true rfl, Nat.le_of_ble_eq_true rfl⟩) (m_preS hC hH) rfl rfl hl.1 rfl (lv_room (Nat.le_of_ble_eq_true rfl)) dX6_act_22 ⟨Nat.le_of_ble_eq_true rfl, Nat.le_of_ble_eq_true rfl⟩) (fun r_6 rho_8 f_7 H locs hw hH => ?_)
    obtain ⟨hu, hr_6⟩ := hw
    have hu : f_7 = f := hu
    rw [hu] at hH
    refine lv_if_ne (tgt := 30) hx hb dX6_act_25 (by decide) (fun c_9 => ?_) (fun c_9 => ?_)
    · skip
      have ic_9 : (r_6.toInt : Int) ≠ 0 := ic_ne rfl kI_0 c_9
      have hok_ : okA (kd, a, bb, c_, d_, e_) := (hr_6.resolve_right (fun z_ => by omega)).2
      refine lv_aload_n hx hb dX6_act_30 rfl (lv_at hl 0 rfl) ?_
      obtain ⟨he_10, fe_10, ca_10, ga_10, wh_10, tm_10, wm_10, ac_10, th_10, st_10, F_10, b1_10, b2_10, b3_10, b4_10, b5_10, b6_10, b7_10, b8_10⟩ : okM0 h n (f (h 0)) := hI.1 0 (by decide)
      refine m_get (ci := 6) (v := .ref (h 9)) (C := RX6) (T := TX6) (N := 30) hx hb hC hH hts in_X6_act_X6 hown F_10 rfl 9 (by decide) (hts (.fieldLink RX6 31 "LazyStateModel" "many" "[I") (by decide +kernel)) rfl dX6_act_31 ?_
      refine lv_iload_n hx hb dX6_act_34 rfl (lv_at hl 1 rfl) ?_
      obtain ⟨g_11, hg_11, hp_11⟩ : okI G 0 6 (fun g => ∀ b, b < 6 → g b = nI (z b)) (f (h 9)) := hI.1 9 (by decide)
      refine m_iald hx hb hC hH hg_11 (vp_in_iff.mpr ⟨by omega, by omega⟩) dX6_act_35 ?_
      refine lv_topi (fun x_12 ex_12 => ?_)
      have qx_12 := hI.2.2.2.2.1 b.toNatClampNeg
      have ix_12 : x_12.toInt = (z b.toNatClampNeg : Int) := ic_nI (by rw [ex_12]; exact hp_11 (b.toNatClampNeg) (ic_cl rfl (by omega) (by omega))) (by omega)
      refine lv_bipush (v := 32) hx hb dX6_act_36 (by decide) ?_
      refine lv_icmp_ne (tgt := 44) hx hb dX6_act_38 (by decide) (fun c_13 => ?_) (fun c_13 => ?_)
      · skip
        have ic_13 : (x_12.toInt : Int) ≠ 32 := ic_ne rfl kI_32 c_13
        refine lv_bipush (v := 32) hx hb dX6_act_44 (by decide) ?_
        refine lv_iload_n hx hb dX6_act_46 rfl (lv_at hl 1 rfl) ?_
        refine lv_imul hx hb dX6_act_47 ?_
        refine lv_topi (fun x_14 ex_14 => ?_)
        have ix_14 : x_14.toInt = 32 * b.toInt := ic_mul ex_14 kI_32 rfl (by omega) (by omega)
        refine lv_aload_n hx hb dX6_act_48 rfl (lv_at hl 0 rfl) ?_
        refine m_get (ci := 6) (v := .ref (h 9)) (C := RX6) (T := TX6) (N := 30) hx hb hC hH hts in_X6_act_X6 hown F_10 rfl 9 (by decide) (hts (.fieldLink RX6 31 "LazyStateModel" "many" "[I") (by decide +kernel)) rfl dX6_act_49 ?_
        refine lv_iload_n hx hb dX6_act_52 rfl (lv_at hl 1 rfl) ?_
        refine m_iald hx hb hC hH hg_11 (vp_in_iff.mpr ⟨by omega, by omega⟩) dX6_act_53 ?_
        refine lv_topi (fun x_15 ex_15 => ?_)
        have qx_15 := hI.2.2.2.2.1 b.toNatClampNeg
        have ix_15 : x_15.toInt = (z b.toNatClampNeg : Int) := ic_nI (by rw [ex_15]; exact hp_11 (b.toNatClampNeg) (ic_cl rfl (by omega) (by omega))) (by omega)
        refine lv_iadd hx hb dX6_act_54 ?_
        refine lv_topi (fun x_16 ex_16 => ?_)
        have ix_16 : x_16.toInt = x_14.toInt + x_15.toInt := ic_add ex_16 rfl rfl (by omega) (by omega)
        have iN_ : x_16.toNatClampNeg = 32 * b.toNatClampNeg + z b.toNatClampNeg := by have := ic_clN (rfl : x_16.toInt = _) (by omega); have := ic_clN (rfl : b.toInt = _) (by omega); omega
        have hzb_ : z b.toNatClampNeg < 32 := by have := hI.2.2.2.2.1 b.toNatClampNeg; omega
        have hb6_ : b.toNatClampNeg < 6 := ic_cl (rfl : b.toInt = _) (by omega) (by omega)
        refine lv_istore (lv' := [(9, .int x_16), (0, .ref (h 0)), (1, .int b), (2, .int kd), (3, .int a), (4, .long bb), (6, .int c_), (7, .int d_), (8, .int e_)]) hx hb dX6_act_55 hl (by decide) rfl (fun ls hl => ?_)
        refine lv_aload_n hx hb dX6_act_57 rfl (lv_at hl 1 rfl) ?_
        refine m_get (ci := 6) (v := .ref (h 10)) (C := RX6) (T := TX6) (N := 30) hx hb hC hH hts in_X6_act_X6 hown F_10 rfl 10 (by decide) (hts (.fieldLink RX6 34 "LazyStateModel" "kinds" "[I") (by decide +kernel)) rfl dX6_act_58 ?_
        refine lv_iload hx hb dX6_act_61 (lv_at hl 0 rfl) ?_
        refine lv_iload_n hx hb dX6_act_63 rfl (lv_at hl 3 rfl) ?_
        obtain ⟨g_17, hg_17, hp_17⟩ : okI G 0 192 (fun g => ∀ k, vld z k → g k = (A k).1) (f (h 10)) := hI.1 10 (by decide)
        refine m_iast hx hb hC hH hg_17 (vp_in_iff.mpr ⟨by omega, by omega⟩) dX6_act_64 (fun H locs hH => ?_)
        obtain ⟨f_18, ef_18⟩ : ∃ zz_ : mF, zz_ = va_up f (h 10) (some (.inl (gk G 0, 192, .inl (upd g_17 x_16.toNatClampNeg kd)))) := ⟨_, rfl⟩
        rw [← ef_18] at hH
        have F_19 := upk F_10 ef_18 (neM hj (by decide) (by decide) (by decide))
        have hq10_ : ∀ q_, vld z q_ → (upd g_17 x_16.toNatClampNeg kd) q_ = (A q_).1 := fun q_ hq_ => by rw [upd_far (vld_nei hq_ iN_ hzb_)]; exact hp_17 q_ hq_
        have hI : IM G h n T z A f_18 := hI.arr 10 (by decide) (by decide) (by decide) (by decide) (show okI G 0 192 (fun g => ∀ k, vld z k → g k = (A k).1) _ from ⟨_, rfl, hq10_⟩) ef_18
        have ha10_ : (upd g_17 x_16.toNatClampNeg kd) (32 * b.toNatClampNeg + z b.toNatClampNeg) = kd := by rw [← iN_]; exact upd_at
        have hG10_ : f_18 (h 10) = some (.inl (gk G 0, 192, .inl (upd g_17 x_16.toNatClampNeg kd))) := by rw [ef_18]; exact va_up_self _ _ _
        have hfr := hfr.up 10 (by decide) ef_18
        have hkp := hkp.up 10 hj (by decide) (by decide) ef_18
        refine lv_aload_n hx hb dX6_act_65 rfl (lv_at hl 1 rfl) ?_
        refine m_get (ci := 6) (v := .ref (h 11)) (C := RX6) (T := TX6) (N := 30) hx hb hC hH hts in_X6_act_X6 hown F_19 rfl 11 (by decide) (hts (.fieldLink RX6 37 "LazyStateModel" "as" "[I") (by decide +kernel)) rfl dX6_act_66 ?_
        refine lv_iload hx hb dX6_act_69 (lv_at hl 0 rfl) ?_
        refine lv_iload_n hx hb dX6_act_71 rfl (lv_at hl 4 rfl) ?_
        obtain ⟨g_20, hg_20, hp_20⟩ : okI G 0 192 (fun g => ∀ k, vld z k → g k = (A k).2.1) (f_18 (h 11)) := hI.1 11 (by decide)
        refine m_iast hx hb hC hH hg_20 (vp_in_iff.mpr ⟨by omega, by omega⟩) dX6_act_72 (fun H locs hH => ?_)
        obtain ⟨f_21, ef_21⟩ : ∃ zz_ : mF, zz_ = va_up f_18 (h 11) (some (.inl (gk G 0, 192, .inl (upd g_20 x_16.toNatClampNeg a)))) := ⟨_, rfl⟩
        rw [← ef_21] at hH
        have F_22 := upk F_19 ef_21 (neM hj (by decide) (by decide) (by decide))
        have hq11_ : ∀ q_, vld z q_ → (upd g_20 x_16.toNatClampNeg a) q_ = (A q_).2.1 := fun q_ hq_ => by rw [upd_far (vld_nei hq_ iN_ hzb_)]; exact hp_20 q_ hq_
        have hI : IM G h n T z A f_21 := hI.arr 11 (by decide) (by decide) (by decide) (by decide) (show okI G 0 192 (fun g => ∀ k, vld z k → g k = (A k).2.1) _ from ⟨_, rfl, hq11_⟩) ef_21
        have ha11_ : (upd g_20 x_16.toNatClampNeg a) (32 * b.toNatClampNeg + z b.toNatClampNeg) = a := by rw [← iN_]; exact upd_at
        have hG11_ : f_21 (h 11) = some (.inl (gk G 0, 192, .inl (upd g_20 x_16.toNatClampNeg a))) := by rw [ef_21]; exact va_up_self _ _ _
        have hfr := hfr.up 11 (by decide) ef_21
        have hkp := hkp.up 11 hj (by decide) (by decide) ef_21
        have hg_23 := upk hG10_ ef_21 (neM hj (by decide) (by decide) (by decide))
        refine lv_aload_n hx hb dX6_act_73 rfl (lv_at hl 1 rfl) ?_
        refine m_get (ci := 6) (v := .ref (h 12)) (C := RX6) (T := TX6) (N := 30) hx hb hC hH hts in_X6_act_X6 hown F_22 rfl 12 (by decide) (hts (.fieldLink RX6 40 "LazyStateModel" "bs" "[J") (by decide +kernel)) rfl dX6_act_74 ?_
        refine lv_iload hx hb dX6_act_77 (lv_at hl 0 rfl) ?_
        refine lv_lload hx hb dX6_act_79 (lv_at hl 5 rfl) ?_
        obtain ⟨g_24, hg_24, hp_24⟩ : okJ G 192 (fun g => ∀ k, vld z k → g k = (A k).2.2.1) (f_21 (h 12)) := hI.1 12 (by decide)
        refine m_last hx hb hC hH hg_24 (vp_in_iff.mpr ⟨by omega, by omega⟩) dX6_act_81 (fun H locs hH => ?_)
        obtain ⟨f_25, ef_25⟩ : ∃ zz_ : mF, zz_ = va_up f_21 (h 12) (some (.inl (gk G 1, 192, .inr (.inl (vp_updL g_24 x_16.toNatClampNeg bb))))) := ⟨_, rfl⟩
        rw [← ef_25] at hH
        have F_26 := upk F_22 ef_25 (neM hj (by decide) (by decide) (by decide))
        have hq12_ : ∀ q_, vld z q_ → (vp_updL g_24 x_16.toNatClampNeg bb) q_ = (A q_).2.2.1 := fun q_ hq_ => by rw [updL_far (vld_nei hq_ iN_ hzb_)]; exact hp_24 q_ hq_
        have hI : IM G h n T z A f_25 := hI.arr 12 (by decide) (by decide) (by decide) (by decide) (show okJ G 192 (fun g => ∀ k, vld z k → g k = (A k).2.2.1) _ from ⟨_, rfl, hq12_⟩) ef_25
        have ha12_ : (vp_updL g_24 x_16.toNatClampNeg bb) (32 * b.toNatClampNeg + z b.toNatClampNeg) = bb := by rw [← iN_]; exact updL_at
        have hG12_ : f_25 (h 12) = some (.inl (gk G 1, 192, .inr (.inl (vp_updL g_24 x_16.toNatClampNeg bb)))) := by rw [ef_25]; exact va_up_self _ _ _
        have hfr := hfr.up 12 (by decide) ef_25
        have hkp := hkp.up 12 hj (by decide) (by decide) ef_25
        have hg_27 := upk hG11_ ef_25 (neM hj (by decide) (by decide) (by decide))
        have hg_28 := upk hg_23 ef_25 (neM hj (by decide) (by decide) (by decide))
        refine lv_aload_n hx hb dX6_act_82 rfl (lv_at hl 1 rfl) ?_
        refine m_get (ci := 6) (v := .ref (h 13)) (C := RX6) (T := TX6) (N := 30) hx hb hC hH hts in_X6_act_X6 hown F_26 rfl 13 (by decide) (hts (.fieldLink RX6 43 "LazyStateModel" "cs" "[I") (by decide +kernel)) rfl dX6_act_83 ?_
        refine lv_iload hx hb dX6_act_86 (lv_at hl 0 rfl) ?_
        refine lv_iload hx hb dX6_act_88 (lv_at hl 6 rfl) ?_
        obtain ⟨g_29, hg_29, hp_29⟩ : okI G 0 192 (fun g => ∀ k, vld z k → g k = (A k).2.2.2.1) (f_25 (h 13)) := hI.1 13 (by decide)
        refine m_iast hx hb hC hH hg_29 (vp_in_iff.mpr ⟨by omega, by omega⟩) dX6_act_90 (fun H locs hH => ?_)
        obtain ⟨f_30, ef_30⟩ : ∃ zz_ : mF, zz_ = va_up f_25 (h 13) (some (.inl (gk G 0, 192, .inl (upd g_29 x_16.toNatClampNeg c_)))) := ⟨_, rfl⟩
        rw [← ef_30] at hH
        have F_31 := upk F_26 ef_30 (neM hj (by decide) (by decide) (by decide))
        have hq13_ : ∀ q_, vld z q_ → (upd g_29 x_16.toNatClampNeg c_) q_ = (A q_).2.2.2.1 := fun q_ hq_ => by rw [upd_far (vld_nei hq_ iN_ hzb_)]; exact hp_29 q_ hq_
        have hI : IM G h n T z A f_30 := hI.arr 13 (by decide) (by decide) (by decide) (by decide) (show okI G 0 192 (fun g => ∀ k, vld z k → g k = (A k).2.2.2.1) _ from ⟨_, rfl, hq13_⟩) ef_30
        have ha13_ : (upd g_29 x_16.toNatClampNeg c_) (32 * b.toNatClampNeg + z b.toNatClampNeg) = c_ := by rw [← iN_]; exact upd_at
        have hG13_ : f_30 (h 13) = some (.inl (gk G 0, 192, .inl (upd g_29 x_16.toNatClampNeg c_))) := by rw [ef_30]; exact va_up_self _ _ _
        have hfr := hfr.up 13 (by decide) ef_30
        have hkp := hkp.up 13 hj (by decide) (by decide) ef_30
        have hg_32 := upk hG12_ ef_30 (neM hj (by decide) (by decide) (by decide))
        have hg_33 := upk hg_27 ef_30 (neM hj (by decide) (by decide) (by decide))
        have hg_34 := upk hg_28 ef_30 (neM hj (by decide) (by decide) (by decide))
        refine lv_aload_n hx hb dX6_act_91 rfl (lv_at hl 1 rfl) ?_
        refine m_get (ci := 6) (v := .ref (h 14)) (C := RX6) (T := TX6) (N := 30) hx hb hC hH hts in_X6_act_X6 hown F_31 rfl 14 (by decide) (hts (.fieldLink RX6 46 "LazyStateModel" "ds" "[I") (by decide +kernel)) rfl dX6_act_92 ?_
        refine lv_iload hx hb dX6_act_95 (lv_at hl 0 rfl) ?_
        refine lv_iload hx hb dX6_act_97 (lv_at hl 7 rfl) ?_
        obtain ⟨g_35, hg_35, hp_35⟩ : okI G 0 192 (fun g => ∀ k, vld z k → g k = (A k).2.2.2.2.1) (f_30 (h 14)) := hI.1 14 (by decide)
        refine m_iast hx hb hC hH hg_35 (vp_in_iff.mpr ⟨by omega, by omega⟩) dX6_act_99 (fun H locs hH => ?_)
        obtain ⟨f_36, ef_36⟩ : ∃ zz_ : mF, zz_ = va_up f_30 (h 14) (some (.inl (gk G 0, 192, .inl (upd g_35 x_16.toNatClampNeg d_)))) := ⟨_, rfl⟩
        rw [← ef_36] at hH
        have F_37 := upk F_31 ef_36 (neM hj (by decide) (by decide) (by decide))
        have hq14_ : ∀ q_, vld z q_ → (upd g_35 x_16.toNatClampNeg d_) q_ = (A q_).2.2.2.2.1 := fun q_ hq_ => by rw [upd_far (vld_nei hq_ iN_ hzb_)]; exact hp_35 q_ hq_
        have hI : IM G h n T z A f_36 := hI.arr 14 (by decide) (by decide) (by decide) (by decide) (show okI G 0 192 (fun g => ∀ k, vld z k → g k = (A k).2.2.2.2.1) _ from ⟨_, rfl, hq14_⟩) ef_36
        have ha14_ : (upd g_35 x_16.toNatClampNeg d_) (32 * b.toNatClampNeg + z b.toNatClampNeg) = d_ := by rw [← iN_]; exact upd_at
        have hG14_ : f_36 (h 14) = some (.inl (gk G 0, 192, .inl (upd g_35 x_16.toNatClampNeg d_))) := by rw [ef_36]; exact va_up_self _ _ _
        have hfr := hfr.up 14 (by decide) ef_36
        have hkp := hkp.up 14 hj (by decide) (by decide) ef_36
        have hg_38 := upk hG13_ ef_36 (neM hj (by decide) (by decide) (by decide))
        have hg_39 := upk hg_32 ef_36 (neM hj (by decide) (by decide) (by decide))
        have hg_40 := upk hg_33 ef_36 (neM hj (by decide) (by decide) (by decide))
        have hg_41 := upk hg_34 ef_36 (neM hj (by decide) (by decide) (by decide))
        refine lv_aload_n hx hb dX6_act_100 rfl (lv_at hl 1 rfl) ?_
        refine m_get (ci := 6) (v := .ref (h 15)) (C := RX6) (T := TX6) (N := 30) hx hb hC hH hts in_X6_act_X6 hown F_37 rfl 15 (by decide) (hts (.fieldLink RX6 49 "LazyStateModel" "es" "[I") (by decide +kernel)) rfl dX6_act_101 ?_
        refine lv_iload hx hb dX6_act_104 (lv_at hl 0 rfl) ?_
        refine lv_iload hx hb dX6_act_106 (lv_at hl 8 rfl) ?_
        obtain ⟨g_42, hg_42, hp_42⟩ : okI G 0 192 (fun g => ∀ k, vld z k → g k = (A k).2.2.2.2.2) (f_36 (h 15)) := hI.1 15 (by decide)
        refine m_iast hx hb hC hH hg_42 (vp_in_iff.mpr ⟨by omega, by omega⟩) dX6_act_108 (fun H locs hH => ?_)
        obtain ⟨f_43, ef_43⟩ : ∃ zz_ : mF, zz_ = va_up f_36 (h 15) (some (.inl (gk G 0, 192, .inl (upd g_42 x_16.toNatClampNeg e_)))) := ⟨_, rfl⟩
        rw [← ef_43] at hH
        have F_44 := upk F_37 ef_43 (neM hj (by decide) (by decide) (by decide))
        have hq15_ : ∀ q_, vld z q_ → (upd g_42 x_16.toNatClampNeg e_) q_ = (A q_).2.2.2.2.2 := fun q_ hq_ => by rw [upd_far (vld_nei hq_ iN_ hzb_)]; exact hp_42 q_ hq_
        have hI : IM G h n T z A f_43 := hI.arr 15 (by decide) (by decide) (by decide) (by decide) (show okI G 0 192 (fun g => ∀ k, vld z k → g k = (A k).2.2.2.2.2) _ from ⟨_, rfl, hq15_⟩) ef_43
        have ha15_ : (upd g_42 x_16.toNatClampNeg e_) (32 * b.toNatClampNeg + z b.toNatClampNeg) = e_ := by rw [← iN_]; exact upd_at
        have hG15_ : f_43 (h 15) = some (.inl (gk G 0, 192, .inl (upd g_42 x_16.toNatClampNeg e_))) := by rw [ef_43]; exact va_up_self _ _ _
        have hfr := hfr.up 15 (by decide) ef_43
        have hkp := hkp.up 15 hj (by decide) (by decide) ef_43
        have hg_45 := upk hG14_ ef_43 (neM hj (by decide) (by decide) (by decide))
        have hg_46 := upk hg_38 ef_43 (neM hj (by decide) (by decide) (by decide))
        have hg_47 := upk hg_39 ef_43 (neM hj (by decide) (by decide) (by decide))
        have hg_48 := upk hg_40 ef_43 (neM hj (by decide) (by decide) (by decide))
        have hg_49 := upk hg_41 ef_43 (neM hj (by decide) (by decide) (by decide))
        refine lv_aload_n hx hb dX6_act_109 rfl (lv_at hl 1 rfl) ?_
        refine m_get (ci := 6) (v := .ref (h 9)) (C := RX6) (T := TX6) (N := 30) hx hb hC hH hts in_X6_act_X6 hown F_44 rfl 9 (by decide) (hts (.fieldLink RX6 31 "LazyStateModel" "many" "[I") (by decide +kernel)) rfl dX6_act_110 ?_
        refine lv_iload_n hx hb dX6_act_113 rfl (lv_at hl 2 rfl) ?_
        refine lv_dup2_11 hx hb dX6_act_114 rfl rfl ?_
        obtain ⟨g_50, hg_50, hp_50⟩ : okI G 0 6 (fun g => ∀ b, b < 6 → g b = nI (z b)) (f_43 (h 9)) := hI.1 9 (by decide)
        refine m_iald hx hb hC hH hg_50 (vp_in_iff.mpr ⟨by omega, by omega⟩) dX6_act_115 ?_
        refine lv_topi (fun x_51 ex_51 => ?_)
        have qx_51 := hI.2.2.2.2.1 b.toNatClampNeg
        have ix_51 : x_51.toInt = (z b.toNatClampNeg : Int) := ic_nI (by rw [ex_51]; exact hp_50 (b.toNatClampNeg) (ic_cl rfl (by omega) (by omega))) (by omega)
        refine lv_iconst (v := 1) hx hb dX6_act_116 (by decide) ?_
        refine lv_iadd hx hb dX6_act_117 ?_
        refine lv_topi (fun x_52 ex_52 => ?_)
        have ix_52 : x_52.toInt = x_51.toInt + 1 := ic_add ex_52 rfl kI_1 (by omega) (by omega)
        refine m_iast hx hb hC hH hg_50 (vp_in_iff.mpr ⟨by omega, by omega⟩) dX6_act_118 (fun H locs hH => ?_)
        obtain ⟨f_53, ef_53⟩ : ∃ zz_ : mF, zz_ = va_up f_43 (h 9) (some (.inl (gk G 0, 6, .inl (upd g_50 b.toNatClampNeg x_52)))) := ⟨_, rfl⟩
        rw [← ef_53] at hH
        have F_54 := upk F_44 ef_53 (neM hj (by decide) (by decide) (by decide))
        have hv9_ : x_52 = nI (z b.toNatClampNeg + 1) := ic_inj (by omega) (by omega)
        have hI : IM G h n T (fun q => if q = b.toNatClampNeg then z q + 1 else z q) (fun q => if q = 32 * b.toNatClampNeg + z b.toNatClampNeg then (kd, a, bb, c_, d_, e_) else A q) f_53 := hI.setZ ef_53 ⟨_, rfl, many_up hp_50 hv9_⟩ (fun q_ => by have := hI.2.2.2.2.1 q_; by_cases hq_ : q_ = b.toNatClampNeg; (rw [hq_, if_pos rfl]; omega); (rw [if_neg hq_]; omega)) (okA_up hI.2.2.2.2.1 hzb_ hI.2.2.2.2.2 hok_) ⟨_, hg_49, act_col (pr := fun t => t.1) hq10_ ha10_⟩ ⟨_, hg_48, act_col (pr := fun t => t.2.1) hq11_ ha11_⟩ ⟨_, hg_47, act_col (pr := fun t => t.2.2.1) hq12_ ha12_⟩ ⟨_, hg_46, act_col (pr := fun t => t.2.2.2.1) hq13_ ha13_⟩ ⟨_, hg_45, act_col (pr := fun t => t.2.2.2.2.1) hq14_ ha14_⟩ ⟨_, hG15_, act_col (pr := fun t => t.2.2.2.2.2) hq15_ ha15_⟩
        have hG9_ : f_53 (h 9) = some (.inl (gk G 0, 6, .inl (upd g_50 b.toNatClampNeg x_52))) := by rw [ef_53]; exact va_up_self _ _ _
        have hfr := hfr.up 9 (by decide) ef_53
        have hkp := hkp.up 9 hj (by decide) (by decide) ef_53
        have hg_55 := upk hG15_ ef_53 (neM hj (by decide) (by decide) (by decide))
        have hg_56 := upk hg_45 ef_53 (neM hj (by decide) (by decide) (by decide))
        have hg_57 := upk hg_46 ef_53 (neM hj (by decide) (by decide) (by decide))
        have hg_58 := upk hg_47 ef_53 (neM hj (by decide) (by decide) (by decide))
        have hg_59 := upk hg_48 ef_53 (neM hj (by decide) (by decide) (by decide))
        have hg_60 := upk hg_49 ef_53 (neM hj (by decide) (by decide) (by decide))
        refine lv_aload_n hx hb dX6_act_119 rfl (lv_at hl 1 rfl) ?_
        refine m_get (ci := 6) (v := .ref (h 9)) (C := RX6) (T := TX6) (N := 30) hx hb hC hH hts in_X6_act_X6 hown F_54 rfl 9 (by decide) (hts (.fieldLink RX6 31 "LazyStateModel" "many" "[I") (by decide +kernel)) rfl dX6_act_120 ?_
        refine lv_iload_n hx hb dX6_act_123 rfl (lv_at hl 2 rfl) ?_
        refine m_iald hx hb hC hH hG9_ (vp_in_iff.mpr ⟨by omega, by omega⟩) dX6_act_124 ?_
        refine lv_topi (fun x_61 ex_61 => ?_)
        have ix_61 : x_61.toInt = x_52.toInt := by rw [ex_61, upd_at]
        refine lv_iconst (v := 1) hx hb dX6_act_125 (by decide) ?_
        refine lv_isub hx hb dX6_act_126 ?_
        refine lv_topi (fun x_62 ex_62 => ?_)
        have ix_62 : x_62.toInt = x_61.toInt - 1 := ic_sub ex_62 rfl kI_1 (by omega) (by omega)
        exact m_iret (v := x_62) hx hb hr hlk hC hH (fun _ => (0, 0)) ⟨hfr, Or.inr (Or.inr ⟨⟨by omega, by omega, hok_⟩, hzb_, by omega, hI⟩)⟩ (Nat.le_of_ble_eq_true rfl) (Nat.le_of_ble_eq_true rfl) dX6_act_127
      · skip
        have ic_13 : (x_12.toInt : Int) = 32 := ic_eq rfl kI_32 c_13
        refine lv_bipush (v := (-2)) hx hb dX6_act_41 (by decide) ?_
        exact m_iret (v := (-2)) hx hb hr hlk hC hH (fun _ => (0, 0)) ⟨hfr, Or.inr (Or.inl ⟨⟨by omega, by omega, hok_⟩, by omega, kI_m2, hI⟩)⟩ (Nat.le_of_ble_eq_true rfl) (Nat.le_of_ble_eq_true rfl) dX6_act_43
    · skip
      have ic_9 : (r_6.toInt : Int) = 0 := ic_eq rfl kI_0 c_9
      refine lv_iconst (v := (-1)) hx hb dX6_act_28 (by decide) ?_
      exact m_iret (v := (-1)) hx hb hr hlk hC hH (fun _ => (0, 0)) ⟨hfr, Or.inl ⟨fun q_ => (hr_6.resolve_left (fun z_ => by omega)).2 q_.2.2, kI_m1, hI⟩⟩ (Nat.le_of_ble_eq_true rfl) (Nat.le_of_ble_eq_true rfl) dX6_act_29
set_option maxHeartbeats 4000000 in
set_option maxRecDepth 100000 in
theorem c_X6_clear (l : Launch) (G : mG) (h : Nat → Nat) (n : Nat) (T : Nat → Int32) (z : Nat → Nat) (A : Nat → tA) (f : mF) (hI : IM G h n T z A f) (b : Int32) : Met l yX6_clear wsX6_clear ({ frames := 1, cells := 0, slots := 0, locals := 25 }) (va_Pc [.ref (h 0), .int b] (mW G f)) (va_Qi (fun (r : Int32) (u : mS) => frM h f u.2 ∧ (((b.toInt < 0 ∨ 6 ≤ b.toInt) ∧ r.toInt = -1 ∧ IM G h n T z A u.2) ∨ (0 ≤ b.toInt ∧ b.toInt < 6 ∧ r.toInt = z b.toNatClampNeg ∧ IM G h n T (fun q => if q = b.toNatClampNeg then 0 else z q) A u.2))) (fun (u : mS) t => mW G u.2 t) (mA G)) 0 0 (mA G) := by
  refine mMet [.ref (h 0), .int b] (cc := cX6_clear) (maxL := 3) (ret := (some .int)) (by decide) rfl (Nat.le_of_ble_eq_true rfl) ?_
  intro p e s m below meth c ls hx hb hr hml hts hown hlk hnm hC hH hl
  have hl : lv_has ls 3 [(0, .ref (h 0)), (1, .int b)] := hl
  have hj := hI.2.2.1
  have hn24 := hI.2.2.2.1
  have nIn : (nI n).toInt = (n : Int) := nI_toInt (by omega)
  have hfr : frM h f f := frM.rf
  have hkp : kpM h f f := kpM.rf
  refine lv_iload_n hx hb dX6_clear_0 rfl (lv_at hl 1 rfl) ?_
  refine lv_i2l hx hb dX6_clear_1 rfl ?_
  refine lv_topl (fun y_1 ey_1 => ?_)
  have iy_1 : y_1.toInt = b.toInt := lc_i2l ey_1 rfl
  have gy_1 := ic_rng b
  refine lv_lconst (v := 0) hx hb dX6_clear_2 (by decide) ?_
  refine lv_ldc2 (v := 5) hx hb hown (hts (.constantLong RX6 143 (5)) (by decide +kernel)) dX6_clear_3 ?_
  refine m_goi hH (va_runS (As := [.long y_1, .long 0, .long 5]) (rest := []) ⟨hx, hb, hml, hown, hts⟩ (c_X6_in l G f y_1 0 5) (va_cwS 3 hts gX6_clear_X6_in rfl rfl rfl (by decide +kernel) ⟨Nat.le_of_ble_eq_true rfl, Nat.le_of_ble_eq_true rfl⟩) (m_preS hC hH) rfl rfl hl.1 rfl (lv_room (Nat.le_of_ble_eq_true rfl)) dX6_clear_6 ⟨Nat.le_of_ble_eq_true rfl, Nat.le_of_ble_eq_true rfl⟩) (fun r_2 rho_4 f_3 H locs hw hH => ?_)
  obtain ⟨hu, hr_2⟩ := hw
  have hu : f_3 = f := hu
  rw [hu] at hH
  have hr_2 : (r_2.toInt = 1 ∧ 0 ≤ y_1.toInt ∧ y_1.toInt ≤ 5) ∨ (r_2.toInt = 0 ∧ (y_1.toInt < 0 ∨ 5 < y_1.toInt)) := by have q0 := (rfl : y_1.toInt = _); have q1 := kJ_0; have q2 := kJ_5; omega
  refine lv_if_ne (tgt := 14) hx hb dX6_clear_9 (by decide) (fun c_5 => ?_) (fun c_5 => ?_)
  · skip
    have ic_5 : (r_2.toInt : Int) ≠ 0 := ic_ne rfl kI_0 c_5
    refine lv_aload_n hx hb dX6_clear_14 rfl (lv_at hl 0 rfl) ?_
    obtain ⟨he_6, fe_6, ca_6, ga_6, wh_6, tm_6, wm_6, ac_6, th_6, st_6, F_6, b1_6, b2_6, b3_6, b4_6, b5_6, b6_6, b7_6, b8_6⟩ : okM0 h n (f (h 0)) := hI.1 0 (by decide)
    refine m_get (ci := 6) (v := .ref (h 9)) (C := RX6) (T := TX6) (N := 30) hx hb hC hH hts in_X6_clear_X6 hown F_6 rfl 9 (by decide) (hts (.fieldLink RX6 31 "LazyStateModel" "many" "[I") (by decide +kernel)) rfl dX6_clear_15 ?_
    refine lv_iload_n hx hb dX6_clear_18 rfl (lv_at hl 1 rfl) ?_
    obtain ⟨g_7, hg_7, hp_7⟩ : okI G 0 6 (fun g => ∀ b, b < 6 → g b = nI (z b)) (f (h 9)) := hI.1 9 (by decide)
    refine m_iald hx hb hC hH hg_7 (vp_in_iff.mpr ⟨by omega, by omega⟩) dX6_clear_19 ?_
    refine lv_topi (fun x_8 ex_8 => ?_)
    have qx_8 := hI.2.2.2.2.1 b.toNatClampNeg
    have ix_8 : x_8.toInt = (z b.toNatClampNeg : Int) := ic_nI (by rw [ex_8]; exact hp_7 (b.toNatClampNeg) (ic_cl rfl (by omega) (by omega))) (by omega)
    refine lv_istore_n (lv' := [(2, .int x_8), (0, .ref (h 0)), (1, .int b)]) hx hb dX6_clear_20 rfl hl (by decide) rfl (fun ls hl => ?_)
    refine lv_aload_n hx hb dX6_clear_21 rfl (lv_at hl 1 rfl) ?_
    refine m_get (ci := 6) (v := .ref (h 9)) (C := RX6) (T := TX6) (N := 30) hx hb hC hH hts in_X6_clear_X6 hown F_6 rfl 9 (by decide) (hts (.fieldLink RX6 31 "LazyStateModel" "many" "[I") (by decide +kernel)) rfl dX6_clear_22 ?_
    refine lv_iload_n hx hb dX6_clear_25 rfl (lv_at hl 2 rfl) ?_
    refine lv_iconst (v := 0) hx hb dX6_clear_26 (by decide) ?_
    refine m_iast hx hb hC hH hg_7 (vp_in_iff.mpr ⟨by omega, by omega⟩) dX6_clear_27 (fun H locs hH => ?_)
    obtain ⟨f_9, ef_9⟩ : ∃ zz_ : mF, zz_ = va_up f (h 9) (some (.inl (gk G 0, 6, .inl (upd g_7 b.toNatClampNeg 0)))) := ⟨_, rfl⟩
    rw [← ef_9] at hH
    have F_10 := upk F_6 ef_9 (neM hj (by decide) (by decide) (by decide))
    have hI : IM G h n T (fun q => if q = b.toNatClampNeg then 0 else z q) A f_9 := hI.clr hp_7 ef_9
    have hfr := hfr.up 9 (by decide) ef_9
    have hkp := hkp.up 9 hj (by decide) (by decide) ef_9
    refine lv_iload_n hx hb dX6_clear_28 rfl (lv_at hl 0 rfl) ?_
    exact m_iret (v := x_8) hx hb hr hlk hC hH (fun _ => (0, 0)) ⟨hfr, Or.inr ⟨by omega, by omega, by omega, hI⟩⟩ (Nat.le_of_ble_eq_true rfl) (Nat.le_of_ble_eq_true rfl) dX6_clear_29
  · skip
    have ic_5 : (r_2.toInt : Int) = 0 := ic_eq rfl kI_0 c_5
    refine lv_iconst (v := (-1)) hx hb dX6_clear_12 (by decide) ?_
    exact m_iret (v := (-1)) hx hb hr hlk hC hH (fun _ => (0, 0)) ⟨hfr, Or.inl ⟨by omega, kI_m1, hI⟩⟩ (Nat.le_of_ble_eq_true rfl) (Nat.le_of_ble_eq_true rfl) dX6_clear_13
