set_option maxHeartbeats 4000000 in
set_option maxRecDepth 100000 in
theorem c_X5_isObject (l : Launch) (G : mG) (k : Nat → Nat) (rho : tR) (n : Nat) (T z : Nat → Nat) (st : Nat → Bool) (f : mF) (hI : IC G k rho n T z st f) (o : Int32) : Met l yX5_isObject wsX5_isObject ({ frames := 0, cells := 0, slots := 0, locals := 0 }) (va_Pc [.ref (k 0), .int o] (mW G f)) (va_Qi (fun (r : Int32) (u : mS) => u.2 = f ∧ ((r.toInt = 1 ∧ 0 ≤ o.toInt ∧ o.toInt < n) ∨ (r.toInt = 0 ∧ (o.toInt < 0 ∨ n ≤ o.toInt)))) (fun (u : mS) t => mW G u.2 t) (mA G)) 0 0 (mA G) := by
  refine mMet [.ref (k 0), .int o] (cc := cX5_isObject) (maxL := 2) (ret := (some .boolean)) (by decide) rfl (Nat.le_of_ble_eq_true rfl) ?_
  intro p e s m below meth c ls hx hb hr hml hts hown hlk hnm hC hH hl
  have hl : lv_has ls 2 [(0, .ref (k 0)), (1, .int o)] := hl
  have hj := hI.2.2.2.2.1
  have hn24 := hI.2.2.2.2.2.2.1
  have hT3 := hI.2.2.2.2.2.2.2.1
  have hz32 := hI.2.2.2.2.2.2.2.2
  have nIn : (nI n).toInt = (n : Int) := nI_toInt (by omega)
  have hfr : frC k rho f rho f := frC.rf
  refine lv_iload_n hx hb dX5_isObject_0 rfl (lv_at hl 1 rfl) ?_
  refine lv_if_lt (tgt := 16) hx hb dX5_isObject_1 (by decide) (fun c_1 => ?_) (fun c_1 => ?_)
  · skip
    have ic_1 : (o.toInt : Int) < 0 := ic_lt rfl kI_0 c_1
    refine lv_iconst (v := 0) hx hb dX5_isObject_16 (by decide) ?_
    exact m_zret (v := 0) hx hb hr (by rfl) hlk hC hH rho ⟨rfl, by have := kI_0; omega⟩ (Nat.le_of_ble_eq_true rfl) (Nat.le_of_ble_eq_true rfl) dX5_isObject_17
  · skip
    have ic_1 : (o.toInt : Int) ≥ 0 := ic_nlt rfl kI_0 c_1
    refine lv_iload_n hx hb dX5_isObject_4 rfl (lv_at hl 1 rfl) ?_
    refine lv_aload_n hx hb dX5_isObject_5 rfl (lv_at hl 0 rfl) ?_
    obtain ⟨hn_2, cc_2, fc_2, cb_2, wn_2, vs_2, F_2, b3_2, b4_2⟩ : okLS k n (f (k 0)) := hI.ls
    refine m_get (ci := 5) (v := .int (nI n)) (C := RX5) (T := TX5) (N := 14) hx hb hC hH hts in_X5_isObject_X5 hown F_2 rfl 1 (by decide) (hts (.fieldLink RX5 46 "LazyState" "objectCount" "I") (by decide +kernel)) rfl dX5_isObject_6 ?_
    refine lv_icmp_ge (tgt := 16) hx hb dX5_isObject_9 (by decide) (fun c_3 => ?_) (fun c_3 => ?_)
    · skip
      have ic_3 : ((n : Int) : Int) ≤ o.toInt := ic_le nIn rfl c_3
      refine lv_iconst (v := 0) hx hb dX5_isObject_16 (by decide) ?_
      exact m_zret (v := 0) hx hb hr (by rfl) hlk hC hH rho ⟨rfl, by have := kI_0; omega⟩ (Nat.le_of_ble_eq_true rfl) (Nat.le_of_ble_eq_true rfl) dX5_isObject_17
    · skip
      have ic_3 : ((n : Int) : Int) > o.toInt := ic_nle nIn rfl c_3
      refine lv_iconst (v := 1) hx hb dX5_isObject_12 (by decide) ?_
      refine lv_goto (tgt := 17) hx hb dX5_isObject_13 (by decide) ?_
      exact m_zret (v := 1) hx hb hr (by rfl) hlk hC hH rho ⟨rfl, by have := kI_1; omega⟩ (Nat.le_of_ble_eq_true rfl) (Nat.le_of_ble_eq_true rfl) dX5_isObject_17
set_option maxHeartbeats 4000000 in
set_option maxRecDepth 100000 in
theorem c_X5_isBehaviour (l : Launch) (G : mG) (f : mF) (b : Int32) : Met l yX5_isBehaviour wsX5_isBehaviour ({ frames := 0, cells := 0, slots := 0, locals := 0 }) (va_Pc [.int b] (mW G f)) (va_Qi (fun (r : Int32) (u : mS) => u.2 = f ∧ ((r.toInt = 1 ∧ 0 ≤ b.toInt ∧ b.toInt < 6) ∨ (r.toInt = 0 ∧ (b.toInt < 0 ∨ 6 ≤ b.toInt)))) (fun (u : mS) t => mW G u.2 t) (mA G)) 0 0 (mA G) := by
  refine mMet [.int b] (cc := cX5_isBehaviour) (maxL := 1) (ret := (some .boolean)) (by decide) rfl (Nat.le_of_ble_eq_true rfl) ?_
  intro p e s m below meth c ls hx hb hr hml hts hown hlk hnm hC hH hl
  have hl : lv_has ls 1 [(0, .int b)] := hl
  refine lv_iload_n hx hb dX5_isBehaviour_0 rfl (lv_at hl 0 rfl) ?_
  refine lv_if_lt (tgt := 14) hx hb dX5_isBehaviour_1 (by decide) (fun c_1 => ?_) (fun c_1 => ?_)
  · skip
    have ic_1 : (b.toInt : Int) < 0 := ic_lt rfl kI_0 c_1
    refine lv_iconst (v := 0) hx hb dX5_isBehaviour_14 (by decide) ?_
    exact m_zret (v := 0) hx hb hr (by rfl) hlk hC hH (fun _ => (0, 0)) ⟨rfl, by have := kI_0; omega⟩ (Nat.le_of_ble_eq_true rfl) (Nat.le_of_ble_eq_true rfl) dX5_isBehaviour_15
  · skip
    have ic_1 : (b.toInt : Int) ≥ 0 := ic_nlt rfl kI_0 c_1
    refine lv_iload_n hx hb dX5_isBehaviour_4 rfl (lv_at hl 0 rfl) ?_
    refine lv_bipush (v := 6) hx hb dX5_isBehaviour_5 (by decide) ?_
    refine lv_icmp_ge (tgt := 14) hx hb dX5_isBehaviour_7 (by decide) (fun c_2 => ?_) (fun c_2 => ?_)
    · skip
      have ic_2 : (6 : Int) ≤ b.toInt := ic_le kI_6 rfl c_2
      refine lv_iconst (v := 0) hx hb dX5_isBehaviour_14 (by decide) ?_
      exact m_zret (v := 0) hx hb hr (by rfl) hlk hC hH (fun _ => (0, 0)) ⟨rfl, by have := kI_0; omega⟩ (Nat.le_of_ble_eq_true rfl) (Nat.le_of_ble_eq_true rfl) dX5_isBehaviour_15
    · skip
      have ic_2 : (6 : Int) > b.toInt := ic_nle kI_6 rfl c_2
      refine lv_iconst (v := 1) hx hb dX5_isBehaviour_10 (by decide) ?_
      refine lv_goto (tgt := 15) hx hb dX5_isBehaviour_11 (by decide) ?_
      exact m_zret (v := 1) hx hb hr (by rfl) hlk hC hH (fun _ => (0, 0)) ⟨rfl, by have := kI_1; omega⟩ (Nat.le_of_ble_eq_true rfl) (Nat.le_of_ble_eq_true rfl) dX5_isBehaviour_15
set_option maxHeartbeats 4000000 in
set_option maxRecDepth 100000 in
theorem c_X5_sortAt (l : Launch) (G : mG) (k : Nat → Nat) (rho : tR) (n : Nat) (T z : Nat → Nat) (st : Nat → Bool) (f : mF) (hI : IC G k rho n T z st f) (o j : Int32) : Met l yX5_sortAt wsX5_sortAt ({ frames := 1, cells := 0, slots := 0, locals := 21 }) (va_Pc [.ref (k 0), .int o, .int j] (mW G f)) (va_Qi (fun (r : Int32) (u : mS) => u.2 = f ∧ ((0 ≤ o.toInt ∧ o.toInt < n ∧ 0 ≤ j.toInt ∧ j.toInt < 8 ∧ r = sortF (8 * T o.toNatClampNeg + j.toNatClampNeg)) ∨ r.toInt = 0)) (fun (u : mS) t => mW G u.2 t) (mA G)) 0 0 (mA G) := by
  refine mMet [.ref (k 0), .int o, .int j] (cc := cX5_sortAt) (maxL := 3) (ret := (some .int)) (by decide) rfl (Nat.le_of_ble_eq_true rfl) ?_
  intro p e s m below meth c ls hx hb hr hml hts hown hlk hnm hC hH hl
  have hl : lv_has ls 3 [(0, .ref (k 0)), (1, .int o), (2, .int j)] := hl
  have hj := hI.2.2.2.2.1
  have hn24 := hI.2.2.2.2.2.2.1
  have hT3 := hI.2.2.2.2.2.2.2.1
  have hz32 := hI.2.2.2.2.2.2.2.2
  have nIn : (nI n).toInt = (n : Int) := nI_toInt (by omega)
  have hfr : frC k rho f rho f := frC.rf
  refine lv_aload_n hx hb dX5_sortAt_0 rfl (lv_at hl 0 rfl) ?_
  refine lv_iload_n hx hb dX5_sortAt_1 rfl (lv_at hl 1 rfl) ?_
  obtain ⟨hn_4, cc_4, fc_4, cb_4, wn_4, vs_4, F_4, b3_4, b4_4⟩ : okLS k n (f (k 0)) := hI.ls
  refine m_goi hH (va_runV (As := [.int o]) (rest := []) ⟨hx, hb, hml, hown, hts⟩ (c_X5_isObject l G k rho n T z st f hI o) (cwV 1 hts gX5_sortAt_X5_isObject rfl rfl rfl (by decide +kernel) ⟨Nat.le_of_ble_eq_true rfl, Nat.le_of_ble_eq_true rfl⟩) (m_preV (ci := 5) hC hH F_4 rfl) rfl rfl hl.1 rfl (lv_room (Nat.le_of_ble_eq_true rfl)) dX5_sortAt_2 ⟨Nat.le_of_ble_eq_true rfl, Nat.le_of_ble_eq_true rfl⟩) (fun r_1 rho_3 f_2 H locs hw hH => ?_)
  obtain ⟨hu, hr_1⟩ := hw
  have hu : f_2 = f := hu
  rw [hu] at hH
  refine lv_if_eq (tgt := 21) hx hb dX5_sortAt_5 (by decide) (fun c_5 => ?_) (fun c_5 => ?_)
  · skip
    have ic_5 : (r_1.toInt : Int) = 0 := ic_eq rfl kI_0 c_5
    refine lv_iconst (v := 0) hx hb dX5_sortAt_21 (by decide) ?_
    exact m_iret (v := 0) hx hb hr hlk hC hH rho ⟨rfl, Or.inr kI_0⟩ (Nat.le_of_ble_eq_true rfl) (Nat.le_of_ble_eq_true rfl) dX5_sortAt_22
  · skip
    have ic_5 : (r_1.toInt : Int) ≠ 0 := ic_ne rfl kI_0 c_5
    refine lv_aload_n hx hb dX5_sortAt_8 rfl (lv_at hl 0 rfl) ?_
    refine m_get (ci := 5) (v := .ref (k 1)) (C := RX5) (T := TX5) (N := 14) hx hb hC hH hts in_X5_sortAt_X5 hown F_4 rfl 0 (by decide) (hts (.fieldLink RX5 11 "LazyState" "objects" "[LLazyState$Body;") (by decide +kernel)) rfl dX5_sortAt_9 ?_
    refine lv_iload_n hx hb dX5_sortAt_12 rfl (lv_at hl 1 rfl) ?_
    obtain ⟨g_6, hg_6, hp_6⟩ : okQ G 3 24 (fun g => ∀ o, o < n → ∃ b, g o = some b ∧ rho b = (1, T o)) (f (k 1)) := hI.objs
    refine m_aald hx hb hC hH 3 rfl hg_6 (vp_in_iff.mpr ⟨by omega, by omega⟩) dX5_sortAt_13 ?_
    obtain ⟨o_7, h1o_7, h2o_7⟩ := hp_6 (o.toNatClampNeg) (ic_cl rfl (by omega) (by omega))
    rw [h1o_7]
    refine lv_iload_n hx hb dX5_sortAt_14 rfl (lv_at hl 2 rfl) ?_
    obtain ⟨ca_11, ia_11, si_11, bf_11, F_11, hca_11, hia_11, hbf_11⟩ : okB rho (T (o.toNatClampNeg)) o_7 (f o_7) := hI.pool h2o_7
    have tI_11 : (nI (T (o.toNatClampNeg))).toInt = (T (o.toNatClampNeg) : Int) := nI_toInt (by have := hT3 (o.toNatClampNeg); omega)
    refine m_goi hH (va_runV (As := [.int j]) (rest := []) ⟨hx, hb, hml, hown, hts⟩ (c_X2_sortOf l G k rho n T z st f hI o_7 (T (o.toNatClampNeg)) h2o_7 (hT3 _) j) (cwV 1 hts gX5_sortAt_X2_sortOf rfl rfl rfl (by decide +kernel) ⟨Nat.le_of_ble_eq_true rfl, Nat.le_of_ble_eq_true rfl⟩) (m_preV (ci := 2) hC hH F_11 rfl) rfl rfl hl.1 rfl (lv_room (Nat.le_of_ble_eq_true rfl)) dX5_sortAt_15 ⟨Nat.le_of_ble_eq_true rfl, Nat.le_of_ble_eq_true rfl⟩) (fun r_8 rho_10 f_9 H locs hw hH => ?_)
    obtain ⟨hu, hr_8⟩ := hw
    have hu : f_9 = f := hu
    rw [hu] at hH
    refine lv_goto (tgt := 22) hx hb dX5_sortAt_18 (by decide) ?_
    exact m_iret (v := r_8) hx hb hr hlk hC hH rho ⟨rfl, hr_8.elim (fun q_ => Or.inl ⟨by omega, by omega, q_.1, q_.2.1, q_.2.2⟩) (fun q_ => Or.inr q_.2)⟩ (Nat.le_of_ble_eq_true rfl) (Nat.le_of_ble_eq_true rfl) dX5_sortAt_22
set_option maxHeartbeats 4000000 in
set_option maxRecDepth 100000 in
theorem c_X5_callRefusal (l : Launch) (G : mG) (k : Nat → Nat) (rho : tR) (n : Nat) (T z : Nat → Nat) (st : Nat → Bool) (f : mF) (hI : IC G k rho n T z st f) (o b : Int32) : Met l yX5_callRefusal wsX5_callRefusal ({ frames := 1, cells := 0, slots := 0, locals := 21 }) (va_Pc [.ref (k 0), .int o, .int b] (mW G f)) (va_Qi (fun (r : Int32) (u : mS) => u.2 = f ∧ (r.toInt ≠ 0 ∨ (r.toInt = 0 ∧ 0 ≤ o.toInt ∧ o.toInt < n ∧ 0 ≤ b.toInt ∧ b.toInt < 6))) (fun (u : mS) t => mW G u.2 t) (mA G)) 0 0 (mA G) := by
  refine mMet [.ref (k 0), .int o, .int b] (cc := cX5_callRefusal) (maxL := 3) (ret := (some .int)) (by decide) rfl (Nat.le_of_ble_eq_true rfl) ?_
  intro p e s m below meth c ls hx hb hr hml hts hown hlk hnm hC hH hl
  have hl : lv_has ls 3 [(0, .ref (k 0)), (1, .int o), (2, .int b)] := hl
  have hj := hI.2.2.2.2.1
  have hn24 := hI.2.2.2.2.2.2.1
  have hT3 := hI.2.2.2.2.2.2.2.1
  have hz32 := hI.2.2.2.2.2.2.2.2
  have nIn : (nI n).toInt = (n : Int) := nI_toInt (by omega)
  have hfr : frC k rho f rho f := frC.rf
  refine lv_aload_n hx hb dX5_callRefusal_0 rfl (lv_at hl 0 rfl) ?_
  refine lv_iload_n hx hb dX5_callRefusal_1 rfl (lv_at hl 1 rfl) ?_
  obtain ⟨hn_4, cc_4, fc_4, cb_4, wn_4, vs_4, F_4, b3_4, b4_4⟩ : okLS k n (f (k 0)) := hI.ls
  refine m_goi hH (va_runV (As := [.int o]) (rest := []) ⟨hx, hb, hml, hown, hts⟩ (c_X5_isObject l G k rho n T z st f hI o) (cwV 1 hts gX5_callRefusal_X5_isObject rfl rfl rfl (by decide +kernel) ⟨Nat.le_of_ble_eq_true rfl, Nat.le_of_ble_eq_true rfl⟩) (m_preV (ci := 5) hC hH F_4 rfl) rfl rfl hl.1 rfl (lv_room (Nat.le_of_ble_eq_true rfl)) dX5_callRefusal_2 ⟨Nat.le_of_ble_eq_true rfl, Nat.le_of_ble_eq_true rfl⟩) (fun r_1 rho_3 f_2 H locs hw hH => ?_)
  obtain ⟨hu, hr_1⟩ := hw
  have hu : f_2 = f := hu
  rw [hu] at hH
  refine lv_if_eq (tgt := 15) hx hb dX5_callRefusal_5 (by decide) (fun c_5 => ?_) (fun c_5 => ?_)
  · skip
    have ic_5 : (r_1.toInt : Int) = 0 := ic_eq rfl kI_0 c_5
    refine lv_iconst (v := (-1)) hx hb dX5_callRefusal_15 (by decide) ?_
    exact m_iret (v := (-1)) hx hb hr hlk hC hH rho ⟨rfl, by have := kI_m1; omega⟩ (Nat.le_of_ble_eq_true rfl) (Nat.le_of_ble_eq_true rfl) dX5_callRefusal_16
  · skip
    have ic_5 : (r_1.toInt : Int) ≠ 0 := ic_ne rfl kI_0 c_5
    refine lv_iload_n hx hb dX5_callRefusal_8 rfl (lv_at hl 2 rfl) ?_
    refine m_goi hH (va_runS (As := [.int b]) (rest := []) ⟨hx, hb, hml, hown, hts⟩ (c_X5_isBehaviour l G f b) (va_cwS 1 hts gX5_callRefusal_X5_isBehaviour rfl rfl rfl (by decide +kernel) ⟨Nat.le_of_ble_eq_true rfl, Nat.le_of_ble_eq_true rfl⟩) (m_preS hC hH) rfl rfl hl.1 rfl (lv_room (Nat.le_of_ble_eq_true rfl)) dX5_callRefusal_9 ⟨Nat.le_of_ble_eq_true rfl, Nat.le_of_ble_eq_true rfl⟩) (fun r_6 rho_8 f_7 H locs hw hH => ?_)
    obtain ⟨hu, hr_6⟩ := hw
    have hu : f_7 = f := hu
    rw [hu] at hH
    refine lv_if_ne (tgt := 17) hx hb dX5_callRefusal_12 (by decide) (fun c_9 => ?_) (fun c_9 => ?_)
    · skip
      have ic_9 : (r_6.toInt : Int) ≠ 0 := ic_ne rfl kI_0 c_9
      refine lv_aload_n hx hb dX5_callRefusal_17 rfl (lv_at hl 0 rfl) ?_
      refine m_get (ci := 5) (v := .int hn_4) (C := RX5) (T := TX5) (N := 14) hx hb hC hH hts in_X5_callRefusal_X5 hown F_4 rfl 2 (by decide) (hts (.fieldLink RX5 68 "LazyState" "heightNow" "I") (by decide +kernel)) rfl dX5_callRefusal_18 ?_
      refine lv_bipush (v := 40) hx hb dX5_callRefusal_21 (by decide) ?_
      refine lv_icmp_lt (tgt := 31) hx hb dX5_callRefusal_23 (by decide) (fun c_10 => ?_) (fun c_10 => ?_)
      · skip
        have ic_10 : (hn_4.toInt : Int) < 40 := ic_lt rfl kI_40 c_10
        refine lv_iconst (v := 0) hx hb dX5_callRefusal_31 (by decide) ?_
        exact m_iret (v := 0) hx hb hr hlk hC hH rho ⟨rfl, by have := kI_0; omega⟩ (Nat.le_of_ble_eq_true rfl) (Nat.le_of_ble_eq_true rfl) dX5_callRefusal_32
      · skip
        have ic_10 : (hn_4.toInt : Int) ≥ 40 := ic_nlt rfl kI_40 c_10
        refine lv_bipush (v := (-2)) hx hb dX5_callRefusal_26 (by decide) ?_
        refine lv_goto (tgt := 32) hx hb dX5_callRefusal_28 (by decide) ?_
        exact m_iret (v := (-2)) hx hb hr hlk hC hH rho ⟨rfl, by have := kI_m2; omega⟩ (Nat.le_of_ble_eq_true rfl) (Nat.le_of_ble_eq_true rfl) dX5_callRefusal_32
    · skip
      have ic_9 : (r_6.toInt : Int) = 0 := ic_eq rfl kI_0 c_9
      refine lv_iconst (v := (-1)) hx hb dX5_callRefusal_15 (by decide) ?_
      exact m_iret (v := (-1)) hx hb hr hlk hC hH rho ⟨rfl, by have := kI_m1; omega⟩ (Nat.le_of_ble_eq_true rfl) (Nat.le_of_ble_eq_true rfl) dX5_callRefusal_16
set_option maxHeartbeats 4000000 in
set_option maxRecDepth 100000 in
theorem c_X5_gave (l : Launch) (G : mG) (k : Nat → Nat) (rho : tR) (n : Nat) (T z : Nat → Nat) (st : Nat → Bool) (f : mF) (hI : IC G k rho n T z st f) : Met l yX5_gave wsX5_gave ({ frames := 0, cells := 0, slots := 0, locals := 0 }) (va_Pc [.ref (k 0)] (mW G f)) (va_Ql (fun (r : Int64) (u : mS) => u.2 = f) (fun (u : mS) t => mW G u.2 t) (mA G)) 0 0 (mA G) := by
  refine mMet [.ref (k 0)] (cc := cX5_gave) (maxL := 1) (ret := (some .long)) (by decide) rfl (Nat.le_of_ble_eq_true rfl) ?_
  intro p e s m below meth c ls hx hb hr hml hts hown hlk hnm hC hH hl
  have hl : lv_has ls 1 [(0, .ref (k 0))] := hl
  have hj := hI.2.2.2.2.1
  have hn24 := hI.2.2.2.2.2.2.1
  have hT3 := hI.2.2.2.2.2.2.2.1
  have hz32 := hI.2.2.2.2.2.2.2.2
  have nIn : (nI n).toInt = (n : Int) := nI_toInt (by omega)
  have hfr : frC k rho f rho f := frC.rf
  refine lv_aload_n hx hb dX5_gave_0 rfl (lv_at hl 0 rfl) ?_
  obtain ⟨hn_1, cc_1, fc_1, cb_1, wn_1, vs_1, F_1, b3_1, b4_1⟩ : okLS k n (f (k 0)) := hI.ls
  refine m_get (ci := 5) (v := .ref (k 5)) (C := RX5) (T := TX5) (N := 14) hx hb hC hH hts in_X5_gave_X5 hown F_1 rfl 4 (by decide) (hts (.fieldLink RX5 24 "LazyState" "latest" "LLazyState$Run;") (by decide +kernel)) rfl dX5_gave_1 ?_
  obtain ⟨lb_2, dn_2, gf_2, th_2, ta_2, sr_2, nx_2, F_2, s1_2, s2_2⟩ : okRun k st 0 (f (k (5 + 8 * 0))) := hI.run (i := 0) (c := 0) (by decide) (by decide)
  refine m_get (ci := 3) (v := .long gf_2) (C := RX3) (T := TX3) (N := 11) hx hb hC hH hts in_X5_gave_X3 hown F_2 rfl 3 (by decide) (hts (.fieldLink RX5 140 "LazyState$Run" "gift" "J") (by decide +kernel)) rfl dX5_gave_4 ?_
  exact m_lret (v := gf_2) hx hb hr hlk hC hH rho rfl (Nat.le_of_ble_eq_true rfl) (Nat.le_of_ble_eq_true rfl) dX5_gave_7
set_option maxHeartbeats 4000000 in
set_option maxRecDepth 100000 in
theorem c_X5_where (l : Launch) (G : mG) (k : Nat → Nat) (rho : tR) (n : Nat) (T z : Nat → Nat) (st : Nat → Bool) (f : mF) (hI : IC G k rho n T z st f) : Met l yX5_where wsX5_where ({ frames := 0, cells := 0, slots := 0, locals := 0 }) (va_Pc [.ref (k 0)] (mW G f)) (va_Qi (fun (r : Int32) (u : mS) => u.2 = f) (fun (u : mS) t => mW G u.2 t) (mA G)) 0 0 (mA G) := by
  refine mMet [.ref (k 0)] (cc := cX5_where) (maxL := 1) (ret := (some .int)) (by decide) rfl (Nat.le_of_ble_eq_true rfl) ?_
  intro p e s m below meth c ls hx hb hr hml hts hown hlk hnm hC hH hl
  have hl : lv_has ls 1 [(0, .ref (k 0))] := hl
  have hj := hI.2.2.2.2.1
  have hn24 := hI.2.2.2.2.2.2.1
  have hT3 := hI.2.2.2.2.2.2.2.1
  have hz32 := hI.2.2.2.2.2.2.2.2
  have nIn : (nI n).toInt = (n : Int) := nI_toInt (by omega)
  have hfr : frC k rho f rho f := frC.rf
  refine lv_aload_n hx hb dX5_where_0 rfl (lv_at hl 0 rfl) ?_
  obtain ⟨hn_1, cc_1, fc_1, cb_1, wn_1, vs_1, F_1, b3_1, b4_1⟩ : okLS k n (f (k 0)) := hI.ls
  refine m_get (ci := 5) (v := .ref (k 5)) (C := RX5) (T := TX5) (N := 14) hx hb hC hH hts in_X5_where_X5 hown F_1 rfl 4 (by decide) (hts (.fieldLink RX5 24 "LazyState" "latest" "LLazyState$Run;") (by decide +kernel)) rfl dX5_where_1 ?_
  obtain ⟨lb_2, dn_2, gf_2, th_2, ta_2, sr_2, nx_2, F_2, s1_2, s2_2⟩ : okRun k st 0 (f (k (5 + 8 * 0))) := hI.run (i := 0) (c := 0) (by decide) (by decide)
  refine m_get (ci := 3) (v := .int ta_2) (C := RX3) (T := TX3) (N := 11) hx hb hC hH hts in_X5_where_X3 hown F_2 rfl 5 (by decide) (hts (.fieldLink RX5 144 "LazyState$Run" "thrownAt" "I") (by decide +kernel)) rfl dX5_where_4 ?_
  exact m_iret (v := ta_2) hx hb hr hlk hC hH rho rfl (Nat.le_of_ble_eq_true rfl) (Nat.le_of_ble_eq_true rfl) dX5_where_7
set_option maxHeartbeats 4000000 in
set_option maxRecDepth 100000 in
theorem c_X5_status (l : Launch) (G : mG) (k : Nat → Nat) (rho : tR) (n : Nat) (T z : Nat → Nat) (st : Nat → Bool) (f : mF) (hI : IC G k rho n T z st f) : Met l yX5_status wsX5_status ({ frames := 0, cells := 0, slots := 0, locals := 0 }) (va_Pc [.ref (k 0)] (mW G f)) (va_Qi (fun (r : Int32) (u : mS) => u.2 = f) (fun (u : mS) t => mW G u.2 t) (mA G)) 0 0 (mA G) := by
  refine mMet [.ref (k 0)] (cc := cX5_status) (maxL := 1) (ret := (some .int)) (by decide) rfl (Nat.le_of_ble_eq_true rfl) ?_
  intro p e s m below meth c ls hx hb hr hml hts hown hlk hnm hC hH hl
  have hl : lv_has ls 1 [(0, .ref (k 0))] := hl
  have hj := hI.2.2.2.2.1
  have hn24 := hI.2.2.2.2.2.2.1
  have hT3 := hI.2.2.2.2.2.2.2.1
  have hz32 := hI.2.2.2.2.2.2.2.2
  have nIn : (nI n).toInt = (n : Int) := nI_toInt (by omega)
  have hfr : frC k rho f rho f := frC.rf
  refine lv_aload_n hx hb dX5_status_0 rfl (lv_at hl 0 rfl) ?_
  obtain ⟨hn_1, cc_1, fc_1, cb_1, wn_1, vs_1, F_1, b3_1, b4_1⟩ : okLS k n (f (k 0)) := hI.ls
  refine m_get (ci := 5) (v := .int vs_1) (C := RX5) (T := TX5) (N := 14) hx hb hC hH hts in_X5_status_X5 hown F_1 rfl 13 (by decide) (hts (.fieldLink RX5 41 "LazyState" "viewStatus" "I") (by decide +kernel)) rfl dX5_status_1 ?_
  exact m_iret (v := vs_1) hx hb hr hlk hC hH rho rfl (Nat.le_of_ble_eq_true rfl) (Nat.le_of_ble_eq_true rfl) dX5_status_4
set_option maxHeartbeats 4000000 in
set_option maxRecDepth 100000 in
theorem c_X5_touched (l : Launch) (G : mG) (k : Nat → Nat) (rho : tR) (n : Nat) (T z : Nat → Nat) (st : Nat → Bool) (f : mF) (hI : IC G k rho n T z st f) (a b : Int32) : Met l yX5_touched wsX5_touched ({ frames := 0, cells := 0, slots := 0, locals := 0 }) (va_Pc [.ref (k 0), .int a, .int b] (mW G f)) (va_Qi (fun (r : Int32) (u : mS) => u.2 = f) (fun (u : mS) t => mW G u.2 t) (mA G)) 0 0 (mA G) := by
  refine mMet [.ref (k 0), .int a, .int b] (cc := cX5_touched) (maxL := 4) (ret := (some .int)) (by decide) rfl (Nat.le_of_ble_eq_true rfl) ?_
  intro p e s m below meth c ls hx hb hr hml hts hown hlk hnm hC hH hl
  have hl : lv_has ls 4 [(0, .ref (k 0)), (1, .int a), (2, .int b)] := hl
  have hj := hI.2.2.2.2.1
  have hn24 := hI.2.2.2.2.2.2.1
  have hT3 := hI.2.2.2.2.2.2.2.1
  have hz32 := hI.2.2.2.2.2.2.2.2
  have nIn : (nI n).toInt = (n : Int) := nI_toInt (by omega)
  have hfr : frC k rho f rho f := frC.rf
  refine lv_iload_n hx hb dX5_touched_0 rfl (lv_at hl 1 rfl) ?_
  refine lv_if_lt (tgt := 13) hx hb dX5_touched_1 (by decide) (fun c_1 => ?_) (fun c_1 => ?_)
  · skip
    have ic_1 : (a.toInt : Int) < 0 := ic_lt rfl kI_0 c_1
    refine lv_iconst (v := (-1)) hx hb dX5_touched_13 (by decide) ?_
    exact m_iret (v := (-1)) hx hb hr hlk hC hH rho rfl (Nat.le_of_ble_eq_true rfl) (Nat.le_of_ble_eq_true rfl) dX5_touched_14
  · skip
    have ic_1 : (a.toInt : Int) ≥ 0 := ic_nlt rfl kI_0 c_1
    refine lv_iload_n hx hb dX5_touched_4 rfl (lv_at hl 2 rfl) ?_
    refine lv_if_lt (tgt := 13) hx hb dX5_touched_5 (by decide) (fun c_2 => ?_) (fun c_2 => ?_)
    · skip
      have ic_2 : (b.toInt : Int) < 0 := ic_lt rfl kI_0 c_2
      refine lv_iconst (v := (-1)) hx hb dX5_touched_13 (by decide) ?_
      exact m_iret (v := (-1)) hx hb hr hlk hC hH rho rfl (Nat.le_of_ble_eq_true rfl) (Nat.le_of_ble_eq_true rfl) dX5_touched_14
    · skip
      have ic_2 : (b.toInt : Int) ≥ 0 := ic_nlt rfl kI_0 c_2
      refine lv_iload_n hx hb dX5_touched_8 rfl (lv_at hl 2 rfl) ?_
      refine lv_iconst (v := 1) hx hb dX5_touched_9 (by decide) ?_
      refine lv_icmp_le (tgt := 15) hx hb dX5_touched_10 (by decide) (fun c_3 => ?_) (fun c_3 => ?_)
      · skip
        have ic_3 : (b.toInt : Int) ≤ 1 := ic_le rfl kI_1 c_3
        refine lv_aload_n hx hb dX5_touched_15 rfl (lv_at hl 0 rfl) ?_
        obtain ⟨hn_4, cc_4, fc_4, cb_4, wn_4, vs_4, F_4, b3_4, b4_4⟩ : okLS k n (f (k 0)) := hI.ls
        refine m_get (ci := 5) (v := .ref (k 5)) (C := RX5) (T := TX5) (N := 14) hx hb hC hH hts in_X5_touched_X5 hown F_4 rfl 4 (by decide) (hts (.fieldLink RX5 24 "LazyState" "latest" "LLazyState$Run;") (by decide +kernel)) rfl dX5_touched_16 ?_
        obtain ⟨lb_5, dn_5, gf_5, th_5, ta_5, sr_5, nx_5, F_5, s1_5, s2_5⟩ : okRun k st 0 (f (k (5 + 8 * 0))) := hI.run (i := 0) (c := 0) (by decide) (by decide)
        refine m_get (ci := 3) (v := .ref (k (5 + 8 * 0 + 1))) (C := RX3) (T := TX3) (N := 11) hx hb hC hH hts in_X5_touched_X3 hown F_5 rfl 0 (by decide) (hts (.fieldLink RX5 147 "LazyState$Run" "trace" "LLazyState$Trace;") (by decide +kernel)) rfl dX5_touched_19 ?_
        refine lv_astore_n (lv' := [(3, .ref (k (5 + 8 * 0 + 1))), (0, .ref (k 0)), (1, .int a), (2, .int b)]) hx hb dX5_touched_22 rfl hl (by decide) rfl (fun ls hl => ?_)
        refine lv_iload_n hx hb dX5_touched_23 rfl (lv_at hl 2 rfl) ?_
        refine lv_aload_n hx hb dX5_touched_24 rfl (lv_at hl 0 rfl) ?_
        obtain ⟨ct_6, cg_6, F_6, b1_6, b2_6⟩ : okTr k 0 (f (k (5 + 8 * 0 + 1))) := hI.run (i := 0) (c := 1) (by decide) (by decide)
        refine m_get (ci := 4) (v := .int ct_6) (C := RX4) (T := TX4) (N := 5) hx hb hC hH hts in_X5_touched_X4 hown F_6 rfl 1 (by decide) (hts (.fieldLink RX5 151 "LazyState$Trace" "count" "I") (by decide +kernel)) rfl dX5_touched_25 ?_
        refine lv_icmp_lt (tgt := 34) hx hb dX5_touched_28 (by decide) (fun c_7 => ?_) (fun c_7 => ?_)
        · skip
          have ic_7 : (a.toInt : Int) < ct_6.toInt := ic_lt rfl rfl c_7
          refine lv_iload_n hx hb dX5_touched_34 rfl (lv_at hl 3 rfl) ?_
          refine lv_if_ne (tgt := 49) hx hb dX5_touched_35 (by decide) (fun c_8 => ?_) (fun c_8 => ?_)
          · skip
            have ic_8 : (b.toInt : Int) ≠ 0 := ic_ne rfl kI_0 c_8
            refine lv_aload_n hx hb dX5_touched_49 rfl (lv_at hl 0 rfl) ?_
            refine m_get (ci := 4) (v := .ref (k (5 + 8 * 0 + 2))) (C := RX4) (T := TX4) (N := 5) hx hb hC hH hts in_X5_touched_X4 hown F_6 rfl 0 (by decide) (hts (.fieldLink RX5 156 "LazyState$Trace" "entries" "[I") (by decide +kernel)) rfl dX5_touched_50 ?_
            refine lv_iload_n hx hb dX5_touched_53 rfl (lv_at hl 2 rfl) ?_
            obtain ⟨g_9, hg_9, hp_9⟩ : okI G 0 384 (fun _ => True) (f (k (5 + 8 * 0 + 2))) := hI.run (i := 0) (c := 2) (by decide) (by decide)
            refine m_iald hx hb hC hH hg_9 (vp_in_iff.mpr ⟨by omega, by omega⟩) dX5_touched_54 ?_
            refine lv_topi (fun x_10 ex_10 => ?_)
            refine lv_iconst (v := 1) hx hb dX5_touched_55 (by decide) ?_
            refine lv_iand hx hb dX5_touched_56 ?_
            refine lv_topi (fun x_11 ex_11 => ?_)
            exact m_iret (v := x_11) hx hb hr hlk hC hH rho rfl (Nat.le_of_ble_eq_true rfl) (Nat.le_of_ble_eq_true rfl) dX5_touched_57
          · skip
            have ic_8 : (b.toInt : Int) = 0 := ic_eq rfl kI_0 c_8
            refine lv_aload_n hx hb dX5_touched_38 rfl (lv_at hl 0 rfl) ?_
            refine m_get (ci := 4) (v := .ref (k (5 + 8 * 0 + 2))) (C := RX4) (T := TX4) (N := 5) hx hb hC hH hts in_X5_touched_X4 hown F_6 rfl 0 (by decide) (hts (.fieldLink RX5 156 "LazyState$Trace" "entries" "[I") (by decide +kernel)) rfl dX5_touched_39 ?_
            refine lv_iload_n hx hb dX5_touched_42 rfl (lv_at hl 2 rfl) ?_
            obtain ⟨g_12, hg_12, hp_12⟩ : okI G 0 384 (fun _ => True) (f (k (5 + 8 * 0 + 2))) := hI.run (i := 0) (c := 2) (by decide) (by decide)
            refine m_iald hx hb hC hH hg_12 (vp_in_iff.mpr ⟨by omega, by omega⟩) dX5_touched_43 ?_
            refine lv_topi (fun x_13 ex_13 => ?_)
            refine lv_iconst (v := 1) hx hb dX5_touched_44 (by decide) ?_
            refine lv_ishr hx hb dX5_touched_45 ?_
            refine lv_topi (fun x_14 ex_14 => ?_)
            refine lv_goto (tgt := 57) hx hb dX5_touched_46 (by decide) ?_
            exact m_iret (v := x_14) hx hb hr hlk hC hH rho rfl (Nat.le_of_ble_eq_true rfl) (Nat.le_of_ble_eq_true rfl) dX5_touched_57
        · skip
          have ic_7 : (a.toInt : Int) ≥ ct_6.toInt := ic_nlt rfl rfl c_7
          refine lv_bipush (v := (-3)) hx hb dX5_touched_31 (by decide) ?_
          exact m_iret (v := (-3)) hx hb hr hlk hC hH rho rfl (Nat.le_of_ble_eq_true rfl) (Nat.le_of_ble_eq_true rfl) dX5_touched_33
      · skip
        have ic_3 : (b.toInt : Int) > 1 := ic_nle rfl kI_1 c_3
        refine lv_iconst (v := (-1)) hx hb dX5_touched_13 (by decide) ?_
        exact m_iret (v := (-1)) hx hb hr hlk hC hH rho rfl (Nat.le_of_ble_eq_true rfl) (Nat.le_of_ble_eq_true rfl) dX5_touched_14
set_option maxHeartbeats 4000000 in
set_option maxRecDepth 100000 in
theorem c_X5_written (l : Launch) (G : mG) (k : Nat → Nat) (rho : tR) (n : Nat) (T z : Nat → Nat) (st : Nat → Bool) (f : mF) (hI : IC G k rho n T z st f) (a : Int32) : Met l yX5_written wsX5_written ({ frames := 0, cells := 0, slots := 0, locals := 0 }) (va_Pc [.ref (k 0), .int a] (mW G f)) (va_Qi (fun (r : Int32) (u : mS) => u.2 = f) (fun (u : mS) t => mW G u.2 t) (mA G)) 0 0 (mA G) := by
  refine mMet [.ref (k 0), .int a] (cc := cX5_written) (maxL := 2) (ret := (some .int)) (by decide) rfl (Nat.le_of_ble_eq_true rfl) ?_
  intro p e s m below meth c ls hx hb hr hml hts hown hlk hnm hC hH hl
  have hl : lv_has ls 2 [(0, .ref (k 0)), (1, .int a)] := hl
  have hj := hI.2.2.2.2.1
  have hn24 := hI.2.2.2.2.2.2.1
  have hT3 := hI.2.2.2.2.2.2.2.1
  have hz32 := hI.2.2.2.2.2.2.2.2
  have nIn : (nI n).toInt = (n : Int) := nI_toInt (by omega)
  have hfr : frC k rho f rho f := frC.rf
  refine lv_iload_n hx hb dX5_written_0 rfl (lv_at hl 1 rfl) ?_
  refine lv_if_ge (tgt := 6) hx hb dX5_written_1 (by decide) (fun c_1 => ?_) (fun c_1 => ?_)
  · skip
    have ic_1 : (0 : Int) ≤ a.toInt := ic_le kI_0 rfl c_1
    refine lv_iload_n hx hb dX5_written_6 rfl (lv_at hl 1 rfl) ?_
    refine lv_aload_n hx hb dX5_written_7 rfl (lv_at hl 0 rfl) ?_
    obtain ⟨hn_2, cc_2, fc_2, cb_2, wn_2, vs_2, F_2, b3_2, b4_2⟩ : okLS k n (f (k 0)) := hI.ls
    refine m_get (ci := 5) (v := .int wn_2) (C := RX5) (T := TX5) (N := 14) hx hb hC hH hts in_X5_written_X5 hown F_2 rfl 11 (by decide) (hts (.fieldLink RX5 131 "LazyState" "writtenCount" "I") (by decide +kernel)) rfl dX5_written_8 ?_
    refine lv_icmp_ge (tgt := 23) hx hb dX5_written_11 (by decide) (fun c_3 => ?_) (fun c_3 => ?_)
    · skip
      have ic_3 : (wn_2.toInt : Int) ≤ a.toInt := ic_le rfl rfl c_3
      refine lv_bipush (v := (-3)) hx hb dX5_written_23 (by decide) ?_
      exact m_iret (v := (-3)) hx hb hr hlk hC hH rho rfl (Nat.le_of_ble_eq_true rfl) (Nat.le_of_ble_eq_true rfl) dX5_written_25
    · skip
      have ic_3 : (wn_2.toInt : Int) > a.toInt := ic_nle rfl rfl c_3
      refine lv_aload_n hx hb dX5_written_14 rfl (lv_at hl 0 rfl) ?_
      refine m_get (ci := 5) (v := .ref (k 3)) (C := RX5) (T := TX5) (N := 14) hx hb hC hH hts in_X5_written_X5 hown F_2 rfl 10 (by decide) (hts (.fieldLink RX5 34 "LazyState" "writtenLeaves" "[I") (by decide +kernel)) rfl dX5_written_15 ?_
      refine lv_iload_n hx hb dX5_written_18 rfl (lv_at hl 1 rfl) ?_
      obtain ⟨g_4, hg_4, hp_4⟩ : okI G 0 192 (fun _ => True) (f (k 3)) := hI.plain (by decide) (by decide)
      refine m_iald hx hb hC hH hg_4 (vp_in_iff.mpr ⟨by omega, by omega⟩) dX5_written_19 ?_
      refine lv_topi (fun x_5 ex_5 => ?_)
      refine lv_goto (tgt := 25) hx hb dX5_written_20 (by decide) ?_
      exact m_iret (v := x_5) hx hb hr hlk hC hH rho rfl (Nat.le_of_ble_eq_true rfl) (Nat.le_of_ble_eq_true rfl) dX5_written_25
  · skip
    have ic_1 : (0 : Int) > a.toInt := ic_nle kI_0 rfl c_1
    refine lv_iconst (v := (-1)) hx hb dX5_written_4 (by decide) ?_
    exact m_iret (v := (-1)) hx hb hr hlk hC hH rho rfl (Nat.le_of_ble_eq_true rfl) (Nat.le_of_ble_eq_true rfl) dX5_written_5
set_option maxHeartbeats 4000000 in
set_option maxRecDepth 100000 in
theorem c_X5_loaded (l : Launch) (G : mG) (k : Nat → Nat) (rho : tR) (n : Nat) (T z : Nat → Nat) (st : Nat → Bool) (f : mF) (hI : IC G k rho n T z st f) (o : Int32) : Met l yX5_loaded wsX5_loaded ({ frames := 1, cells := 0, slots := 0, locals := 21 }) (va_Pc [.ref (k 0), .int o] (mW G f)) (va_Qi (fun (r : Int32) (u : mS) => u.2 = f) (fun (u : mS) t => mW G u.2 t) (mA G)) 0 0 (mA G) := by
  refine mMet [.ref (k 0), .int o] (cc := cX5_loaded) (maxL := 2) (ret := (some .int)) (by decide) rfl (Nat.le_of_ble_eq_true rfl) ?_
  intro p e s m below meth c ls hx hb hr hml hts hown hlk hnm hC hH hl
  have hl : lv_has ls 2 [(0, .ref (k 0)), (1, .int o)] := hl
  have hj := hI.2.2.2.2.1
  have hn24 := hI.2.2.2.2.2.2.1
  have hT3 := hI.2.2.2.2.2.2.2.1
  have hz32 := hI.2.2.2.2.2.2.2.2
  have nIn : (nI n).toInt = (n : Int) := nI_toInt (by omega)
  have hfr : frC k rho f rho f := frC.rf
  refine lv_aload_n hx hb dX5_loaded_0 rfl (lv_at hl 0 rfl) ?_
  refine lv_iload_n hx hb dX5_loaded_1 rfl (lv_at hl 1 rfl) ?_
  obtain ⟨hn_4, cc_4, fc_4, cb_4, wn_4, vs_4, F_4, b3_4, b4_4⟩ : okLS k n (f (k 0)) := hI.ls
  refine m_goi hH (va_runV (As := [.int o]) (rest := []) ⟨hx, hb, hml, hown, hts⟩ (c_X5_isObject l G k rho n T z st f hI o) (cwV 1 hts gX5_loaded_X5_isObject rfl rfl rfl (by decide +kernel) ⟨Nat.le_of_ble_eq_true rfl, Nat.le_of_ble_eq_true rfl⟩) (m_preV (ci := 5) hC hH F_4 rfl) rfl rfl hl.1 rfl (lv_room (Nat.le_of_ble_eq_true rfl)) dX5_loaded_2 ⟨Nat.le_of_ble_eq_true rfl, Nat.le_of_ble_eq_true rfl⟩) (fun r_1 rho_3 f_2 H locs hw hH => ?_)
  obtain ⟨hu, hr_1⟩ := hw
  have hu : f_2 = f := hu
  rw [hu] at hH
  refine lv_if_eq (tgt := 22) hx hb dX5_loaded_5 (by decide) (fun c_5 => ?_) (fun c_5 => ?_)
  · skip
    have ic_5 : (r_1.toInt : Int) = 0 := ic_eq rfl kI_0 c_5
    refine lv_iconst (v := (-1)) hx hb dX5_loaded_22 (by decide) ?_
    exact m_iret (v := (-1)) hx hb hr hlk hC hH rho rfl (Nat.le_of_ble_eq_true rfl) (Nat.le_of_ble_eq_true rfl) dX5_loaded_23
  · skip
    have ic_5 : (r_1.toInt : Int) ≠ 0 := ic_ne rfl kI_0 c_5
    refine lv_aload_n hx hb dX5_loaded_8 rfl (lv_at hl 0 rfl) ?_
    refine m_get (ci := 5) (v := .ref (k 5)) (C := RX5) (T := TX5) (N := 14) hx hb hC hH hts in_X5_loaded_X5 hown F_4 rfl 4 (by decide) (hts (.fieldLink RX5 24 "LazyState" "latest" "LLazyState$Run;") (by decide +kernel)) rfl dX5_loaded_9 ?_
    obtain ⟨lb_6, dn_6, gf_6, th_6, ta_6, sr_6, nx_6, F_6, s1_6, s2_6⟩ : okRun k st 0 (f (k (5 + 8 * 0))) := hI.run (i := 0) (c := 0) (by decide) (by decide)
    refine m_get (ci := 3) (v := .int lb_6) (C := RX3) (T := TX3) (N := 11) hx hb hC hH hts in_X5_loaded_X3 hown F_6 rfl 1 (by decide) (hts (.fieldLink RX5 119 "LazyState$Run" "loadedBits" "I") (by decide +kernel)) rfl dX5_loaded_12 ?_
    refine lv_iload_n hx hb dX5_loaded_15 rfl (lv_at hl 1 rfl) ?_
    refine m_goi hH (va_runS (As := [.int lb_6, .int o]) (rest := []) ⟨hx, hb, hml, hown, hts⟩ (c_X5_bitOf l G f lb_6 o) (va_cwS 2 hts gX5_loaded_X5_bitOf rfl rfl rfl (by decide +kernel) ⟨Nat.le_of_ble_eq_true rfl, Nat.le_of_ble_eq_true rfl⟩) (m_preS hC hH) rfl rfl hl.1 rfl (lv_room (Nat.le_of_ble_eq_true rfl)) dX5_loaded_16 ⟨Nat.le_of_ble_eq_true rfl, Nat.le_of_ble_eq_true rfl⟩) (fun r_7 rho_9 f_8 H locs hw hH => ?_)
    obtain ⟨hu, hr_7⟩ := hw
    have hu : f_8 = f := hu
    rw [hu] at hH
    have br_7 : r_7.toInt = 0 ∨ r_7.toInt = 1 := by rw [hr_7]; exact ic_and1 _
    refine lv_goto (tgt := 23) hx hb dX5_loaded_19 (by decide) ?_
    exact m_iret (v := r_7) hx hb hr hlk hC hH rho rfl (Nat.le_of_ble_eq_true rfl) (Nat.le_of_ble_eq_true rfl) dX5_loaded_23
set_option maxHeartbeats 4000000 in
set_option maxRecDepth 100000 in
theorem c_X5_cached (l : Launch) (G : mG) (k : Nat → Nat) (rho : tR) (n : Nat) (T z : Nat → Nat) (st : Nat → Bool) (f : mF) (hI : IC G k rho n T z st f) (o : Int32) : Met l yX5_cached wsX5_cached ({ frames := 1, cells := 0, slots := 0, locals := 21 }) (va_Pc [.ref (k 0), .int o] (mW G f)) (va_Qi (fun (r : Int32) (u : mS) => u.2 = f) (fun (u : mS) t => mW G u.2 t) (mA G)) 0 0 (mA G) := by
  refine mMet [.ref (k 0), .int o] (cc := cX5_cached) (maxL := 2) (ret := (some .int)) (by decide) rfl (Nat.le_of_ble_eq_true rfl) ?_
  intro p e s m below meth c ls hx hb hr hml hts hown hlk hnm hC hH hl
  have hl : lv_has ls 2 [(0, .ref (k 0)), (1, .int o)] := hl
  have hj := hI.2.2.2.2.1
  have hn24 := hI.2.2.2.2.2.2.1
  have hT3 := hI.2.2.2.2.2.2.2.1
  have hz32 := hI.2.2.2.2.2.2.2.2
  have nIn : (nI n).toInt = (n : Int) := nI_toInt (by omega)
  have hfr : frC k rho f rho f := frC.rf
  refine lv_aload_n hx hb dX5_cached_0 rfl (lv_at hl 0 rfl) ?_
  refine lv_iload_n hx hb dX5_cached_1 rfl (lv_at hl 1 rfl) ?_
  obtain ⟨hn_4, cc_4, fc_4, cb_4, wn_4, vs_4, F_4, b3_4, b4_4⟩ : okLS k n (f (k 0)) := hI.ls
  refine m_goi hH (va_runV (As := [.int o]) (rest := []) ⟨hx, hb, hml, hown, hts⟩ (c_X5_isObject l G k rho n T z st f hI o) (cwV 1 hts gX5_cached_X5_isObject rfl rfl rfl (by decide +kernel) ⟨Nat.le_of_ble_eq_true rfl, Nat.le_of_ble_eq_true rfl⟩) (m_preV (ci := 5) hC hH F_4 rfl) rfl rfl hl.1 rfl (lv_room (Nat.le_of_ble_eq_true rfl)) dX5_cached_2 ⟨Nat.le_of_ble_eq_true rfl, Nat.le_of_ble_eq_true rfl⟩) (fun r_1 rho_3 f_2 H locs hw hH => ?_)
  obtain ⟨hu, hr_1⟩ := hw
  have hu : f_2 = f := hu
  rw [hu] at hH
  refine lv_if_eq (tgt := 19) hx hb dX5_cached_5 (by decide) (fun c_5 => ?_) (fun c_5 => ?_)
  · skip
    have ic_5 : (r_1.toInt : Int) = 0 := ic_eq rfl kI_0 c_5
    refine lv_iconst (v := (-1)) hx hb dX5_cached_19 (by decide) ?_
    exact m_iret (v := (-1)) hx hb hr hlk hC hH rho rfl (Nat.le_of_ble_eq_true rfl) (Nat.le_of_ble_eq_true rfl) dX5_cached_20
  · skip
    have ic_5 : (r_1.toInt : Int) ≠ 0 := ic_ne rfl kI_0 c_5
    refine lv_aload_n hx hb dX5_cached_8 rfl (lv_at hl 0 rfl) ?_
    refine m_get (ci := 5) (v := .int cb_4) (C := RX5) (T := TX5) (N := 14) hx hb hC hH hts in_X5_cached_X5 hown F_4 rfl 9 (by decide) (hts (.fieldLink RX5 122 "LazyState" "cachedBits" "I") (by decide +kernel)) rfl dX5_cached_9 ?_
    refine lv_iload_n hx hb dX5_cached_12 rfl (lv_at hl 1 rfl) ?_
    refine m_goi hH (va_runS (As := [.int cb_4, .int o]) (rest := []) ⟨hx, hb, hml, hown, hts⟩ (c_X5_bitOf l G f cb_4 o) (va_cwS 2 hts gX5_cached_X5_bitOf rfl rfl rfl (by decide +kernel) ⟨Nat.le_of_ble_eq_true rfl, Nat.le_of_ble_eq_true rfl⟩) (m_preS hC hH) rfl rfl hl.1 rfl (lv_room (Nat.le_of_ble_eq_true rfl)) dX5_cached_13 ⟨Nat.le_of_ble_eq_true rfl, Nat.le_of_ble_eq_true rfl⟩) (fun r_6 rho_8 f_7 H locs hw hH => ?_)
    obtain ⟨hu, hr_6⟩ := hw
    have hu : f_7 = f := hu
    rw [hu] at hH
    have br_6 : r_6.toInt = 0 ∨ r_6.toInt = 1 := by rw [hr_6]; exact ic_and1 _
    refine lv_goto (tgt := 20) hx hb dX5_cached_16 (by decide) ?_
    exact m_iret (v := r_6) hx hb hr hlk hC hH rho rfl (Nat.le_of_ble_eq_true rfl) (Nat.le_of_ble_eq_true rfl) dX5_cached_20
set_option maxHeartbeats 4000000 in
set_option maxRecDepth 100000 in
theorem c_X5_told (l : Launch) (G : mG) (k : Nat → Nat) (rho : tR) (n : Nat) (T z : Nat → Nat) (st : Nat → Bool) (f : mF) (hI : IC G k rho n T z st f) (w_ : Int32) : Met l yX5_told wsX5_told ({ frames := 1, cells := 0, slots := 0, locals := 20 }) (va_Pc [.ref (k 0), .int w_] (mW G f)) (va_Qi (fun (r : Int32) (u : mS) => u.2 = f) (fun (u : mS) t => mW G u.2 t) (mA G)) 0 0 (mA G) := by
  refine mMet [.ref (k 0), .int w_] (cc := cX5_told) (maxL := 2) (ret := (some .int)) (by decide) rfl (Nat.le_of_ble_eq_true rfl) ?_
  intro p e s m below meth c ls hx hb hr hml hts hown hlk hnm hC hH hl
  have hl : lv_has ls 2 [(0, .ref (k 0)), (1, .int w_)] := hl
  have hj := hI.2.2.2.2.1
  have hn24 := hI.2.2.2.2.2.2.1
  have hT3 := hI.2.2.2.2.2.2.2.1
  have hz32 := hI.2.2.2.2.2.2.2.2
  have nIn : (nI n).toInt = (n : Int) := nI_toInt (by omega)
  have hfr : frC k rho f rho f := frC.rf
  refine lv_iload_n hx hb dX5_told_0 rfl (lv_at hl 1 rfl) ?_
  have hk_1 : (w_.toInt < 0 ∨ 8 < w_.toInt) ∨ w_.toInt = 0 ∨ w_.toInt = 1 ∨ w_.toInt = 2 ∨ w_.toInt = 3 ∨ w_.toInt = 4 ∨ w_.toInt = 5 ∨ w_.toInt = 6 ∨ w_.toInt = 7 ∨ w_.toInt = 8 := by omega
  rcases hk_1 with hk_1 | hk_1 | hk_1 | hk_1 | hk_1 | hk_1 | hk_1 | hk_1 | hk_1 | hk_1
  · skip
    refine lv_tableOut (tgt := 118) hx hb dX5_told_1 hk_1 (by decide) ?_
    refine lv_iconst (v := (-1)) hx hb dX5_told_118 (by decide) ?_
    exact m_iret (v := (-1)) hx hb hr hlk hC hH rho rfl (Nat.le_of_ble_eq_true rfl) (Nat.le_of_ble_eq_true rfl) dX5_told_119
  · skip
    have jk_1 : w_.toInt = 0 := hk_1
    refine lv_tableIn (off := 51) (tgt := 52) hx hb dX5_told_1 (by rw [jk_1]; decide) (by rw [jk_1]; decide) (by rw [jk_1]; rfl) (by decide) ?_
    refine lv_aload_n hx hb dX5_told_52 rfl (lv_at hl 0 rfl) ?_
    obtain ⟨hn_2, cc_2, fc_2, cb_2, wn_2, vs_2, F_2, b3_2, b4_2⟩ : okLS k n (f (k 0)) := hI.ls
    refine m_get (ci := 5) (v := .int (nI n)) (C := RX5) (T := TX5) (N := 14) hx hb hC hH hts in_X5_told_X5 hown F_2 rfl 1 (by decide) (hts (.fieldLink RX5 46 "LazyState" "objectCount" "I") (by decide +kernel)) rfl dX5_told_53 ?_
    exact m_iret (v := nI n) hx hb hr hlk hC hH rho rfl (Nat.le_of_ble_eq_true rfl) (Nat.le_of_ble_eq_true rfl) dX5_told_56
  · skip
    have jk_1 : w_.toInt = 1 := hk_1
    refine lv_tableIn (off := 56) (tgt := 57) hx hb dX5_told_1 (by rw [jk_1]; decide) (by rw [jk_1]; decide) (by rw [jk_1]; rfl) (by decide) ?_
    refine lv_aload_n hx hb dX5_told_57 rfl (lv_at hl 0 rfl) ?_
    obtain ⟨hn_3, cc_3, fc_3, cb_3, wn_3, vs_3, F_3, b3_3, b4_3⟩ : okLS k n (f (k 0)) := hI.ls
    refine m_get (ci := 5) (v := .int hn_3) (C := RX5) (T := TX5) (N := 14) hx hb hC hH hts in_X5_told_X5 hown F_3 rfl 2 (by decide) (hts (.fieldLink RX5 68 "LazyState" "heightNow" "I") (by decide +kernel)) rfl dX5_told_58 ?_
    exact m_iret (v := hn_3) hx hb hr hlk hC hH rho rfl (Nat.le_of_ble_eq_true rfl) (Nat.le_of_ble_eq_true rfl) dX5_told_61
  · skip
    have jk_1 : w_.toInt = 2 := hk_1
    refine lv_tableIn (off := 61) (tgt := 62) hx hb dX5_told_1 (by rw [jk_1]; decide) (by rw [jk_1]; decide) (by rw [jk_1]; rfl) (by decide) ?_
    refine lv_aload_n hx hb dX5_told_62 rfl (lv_at hl 0 rfl) ?_
    obtain ⟨hn_4, cc_4, fc_4, cb_4, wn_4, vs_4, F_4, b3_4, b4_4⟩ : okLS k n (f (k 0)) := hI.ls
    refine m_get (ci := 5) (v := .int fc_4) (C := RX5) (T := TX5) (N := 14) hx hb hC hH hts in_X5_told_X5 hown F_4 rfl 8 (by decide) (hts (.fieldLink RX5 116 "LazyState" "fetchCount" "I") (by decide +kernel)) rfl dX5_told_63 ?_
    exact m_iret (v := fc_4) hx hb hr hlk hC hH rho rfl (Nat.le_of_ble_eq_true rfl) (Nat.le_of_ble_eq_true rfl) dX5_told_66
  · skip
    have jk_1 : w_.toInt = 3 := hk_1
    refine lv_tableIn (off := 66) (tgt := 67) hx hb dX5_told_1 (by rw [jk_1]; decide) (by rw [jk_1]; decide) (by rw [jk_1]; rfl) (by decide) ?_
    refine lv_aload_n hx hb dX5_told_67 rfl (lv_at hl 0 rfl) ?_
    obtain ⟨hn_5, cc_5, fc_5, cb_5, wn_5, vs_5, F_5, b3_5, b4_5⟩ : okLS k n (f (k 0)) := hI.ls
    refine m_get (ci := 5) (v := .ref (k 5)) (C := RX5) (T := TX5) (N := 14) hx hb hC hH hts in_X5_told_X5 hown F_5 rfl 4 (by decide) (hts (.fieldLink RX5 24 "LazyState" "latest" "LLazyState$Run;") (by decide +kernel)) rfl dX5_told_68 ?_
    obtain ⟨lb_6, dn_6, gf_6, th_6, ta_6, sr_6, nx_6, F_6, s1_6, s2_6⟩ : okRun k st 0 (f (k (5 + 8 * 0))) := hI.run (i := 0) (c := 0) (by decide) (by decide)
    refine m_get (ci := 3) (v := .ref (k (5 + 8 * 0 + 1))) (C := RX3) (T := TX3) (N := 11) hx hb hC hH hts in_X5_told_X3 hown F_6 rfl 0 (by decide) (hts (.fieldLink RX5 147 "LazyState$Run" "trace" "LLazyState$Trace;") (by decide +kernel)) rfl dX5_told_71 ?_
    obtain ⟨ct_7, cg_7, F_7, b1_7, b2_7⟩ : okTr k 0 (f (k (5 + 8 * 0 + 1))) := hI.run (i := 0) (c := 1) (by decide) (by decide)
    refine m_get (ci := 4) (v := .int ct_7) (C := RX4) (T := TX4) (N := 5) hx hb hC hH hts in_X5_told_X4 hown F_7 rfl 1 (by decide) (hts (.fieldLink RX5 151 "LazyState$Trace" "count" "I") (by decide +kernel)) rfl dX5_told_74 ?_
    exact m_iret (v := ct_7) hx hb hr hlk hC hH rho rfl (Nat.le_of_ble_eq_true rfl) (Nat.le_of_ble_eq_true rfl) dX5_told_77
  · skip
    have jk_1 : w_.toInt = 4 := hk_1
    refine lv_tableIn (off := 77) (tgt := 78) hx hb dX5_told_1 (by rw [jk_1]; decide) (by rw [jk_1]; decide) (by rw [jk_1]; rfl) (by decide) ?_
    refine lv_aload_n hx hb dX5_told_78 rfl (lv_at hl 0 rfl) ?_
    obtain ⟨hn_8, cc_8, fc_8, cb_8, wn_8, vs_8, F_8, b3_8, b4_8⟩ : okLS k n (f (k 0)) := hI.ls
    refine m_get (ci := 5) (v := .ref (k 5)) (C := RX5) (T := TX5) (N := 14) hx hb hC hH hts in_X5_told_X5 hown F_8 rfl 4 (by decide) (hts (.fieldLink RX5 24 "LazyState" "latest" "LLazyState$Run;") (by decide +kernel)) rfl dX5_told_79 ?_
    obtain ⟨lb_9, dn_9, gf_9, th_9, ta_9, sr_9, nx_9, F_9, s1_9, s2_9⟩ : okRun k st 0 (f (k (5 + 8 * 0))) := hI.run (i := 0) (c := 0) (by decide) (by decide)
    refine m_get (ci := 3) (v := .ref (k (5 + 8 * 0 + 1))) (C := RX3) (T := TX3) (N := 11) hx hb hC hH hts in_X5_told_X3 hown F_9 rfl 0 (by decide) (hts (.fieldLink RX5 147 "LazyState$Run" "trace" "LLazyState$Trace;") (by decide +kernel)) rfl dX5_told_82 ?_
    obtain ⟨ct_10, cg_10, F_10, b1_10, b2_10⟩ : okTr k 0 (f (k (5 + 8 * 0 + 1))) := hI.run (i := 0) (c := 1) (by decide) (by decide)
    refine m_get (ci := 4) (v := .int cg_10) (C := RX4) (T := TX4) (N := 5) hx hb hC hH hts in_X5_told_X4 hown F_10 rfl 2 (by decide) (hts (.fieldLink RX5 193 "LazyState$Trace" "changedCount" "I") (by decide +kernel)) rfl dX5_told_85 ?_
    exact m_iret (v := cg_10) hx hb hr hlk hC hH rho rfl (Nat.le_of_ble_eq_true rfl) (Nat.le_of_ble_eq_true rfl) dX5_told_88
  · skip
    have jk_1 : w_.toInt = 5 := hk_1
    refine lv_tableIn (off := 88) (tgt := 89) hx hb dX5_told_1 (by rw [jk_1]; decide) (by rw [jk_1]; decide) (by rw [jk_1]; rfl) (by decide) ?_
    refine lv_aload_n hx hb dX5_told_89 rfl (lv_at hl 0 rfl) ?_
    obtain ⟨hn_11, cc_11, fc_11, cb_11, wn_11, vs_11, F_11, b3_11, b4_11⟩ : okLS k n (f (k 0)) := hI.ls
    refine m_get (ci := 5) (v := .int wn_11) (C := RX5) (T := TX5) (N := 14) hx hb hC hH hts in_X5_told_X5 hown F_11 rfl 11 (by decide) (hts (.fieldLink RX5 131 "LazyState" "writtenCount" "I") (by decide +kernel)) rfl dX5_told_90 ?_
    exact m_iret (v := wn_11) hx hb hr hlk hC hH rho rfl (Nat.le_of_ble_eq_true rfl) (Nat.le_of_ble_eq_true rfl) dX5_told_93
  · skip
    have jk_1 : w_.toInt = 6 := hk_1
    refine lv_tableIn (off := 93) (tgt := 94) hx hb dX5_told_1 (by rw [jk_1]; decide) (by rw [jk_1]; decide) (by rw [jk_1]; rfl) (by decide) ?_
    refine lv_aload_n hx hb dX5_told_94 rfl (lv_at hl 0 rfl) ?_
    obtain ⟨hn_12, cc_12, fc_12, cb_12, wn_12, vs_12, F_12, b3_12, b4_12⟩ : okLS k n (f (k 0)) := hI.ls
    refine m_get (ci := 5) (v := .ref (k 5)) (C := RX5) (T := TX5) (N := 14) hx hb hC hH hts in_X5_told_X5 hown F_12 rfl 4 (by decide) (hts (.fieldLink RX5 24 "LazyState" "latest" "LLazyState$Run;") (by decide +kernel)) rfl dX5_told_95 ?_
    obtain ⟨lb_13, dn_13, gf_13, th_13, ta_13, sr_13, nx_13, F_13, s1_13, s2_13⟩ : okRun k st 0 (f (k (5 + 8 * 0))) := hI.run (i := 0) (c := 0) (by decide) (by decide)
    refine m_get (ci := 3) (v := .int lb_13) (C := RX3) (T := TX3) (N := 11) hx hb hC hH hts in_X5_told_X3 hown F_13 rfl 1 (by decide) (hts (.fieldLink RX5 119 "LazyState$Run" "loadedBits" "I") (by decide +kernel)) rfl dX5_told_98 ?_
    refine m_goi hH (va_runS (As := [.int lb_13]) (rest := []) ⟨hx, hb, hml, hown, hts⟩ (c_J6_bitCount_0f7a4 l G f lb_13) (va_cwS 1 hts gX5_told_J6_bitCount_0f7a4 rfl rfl rfl (by decide +kernel) ⟨Nat.le_of_ble_eq_true rfl, Nat.le_of_ble_eq_true rfl⟩) (m_preS hC hH) rfl rfl hl.1 rfl (lv_room (Nat.le_of_ble_eq_true rfl)) dX5_told_101 ⟨Nat.le_of_ble_eq_true rfl, Nat.le_of_ble_eq_true rfl⟩) (fun r_14 rho_16 f_15 H locs hw hH => ?_)
    have hu : f_15 = f := hw
    rw [hu] at hH
    exact m_iret (v := r_14) hx hb hr hlk hC hH rho rfl (Nat.le_of_ble_eq_true rfl) (Nat.le_of_ble_eq_true rfl) dX5_told_104
  · skip
    have jk_1 : w_.toInt = 7 := hk_1
    refine lv_tableIn (off := 104) (tgt := 105) hx hb dX5_told_1 (by rw [jk_1]; decide) (by rw [jk_1]; decide) (by rw [jk_1]; rfl) (by decide) ?_
    refine lv_aload_n hx hb dX5_told_105 rfl (lv_at hl 0 rfl) ?_
    obtain ⟨hn_17, cc_17, fc_17, cb_17, wn_17, vs_17, F_17, b3_17, b4_17⟩ : okLS k n (f (k 0)) := hI.ls
    refine m_get (ci := 5) (v := .ref (k 5)) (C := RX5) (T := TX5) (N := 14) hx hb hC hH hts in_X5_told_X5 hown F_17 rfl 4 (by decide) (hts (.fieldLink RX5 24 "LazyState" "latest" "LLazyState$Run;") (by decide +kernel)) rfl dX5_told_106 ?_
    obtain ⟨lb_18, dn_18, gf_18, th_18, ta_18, sr_18, nx_18, F_18, s1_18, s2_18⟩ : okRun k st 0 (f (k (5 + 8 * 0))) := hI.run (i := 0) (c := 0) (by decide) (by decide)
    refine m_get (ci := 3) (v := .int dn_18) (C := RX3) (T := TX3) (N := 11) hx hb hC hH hts in_X5_told_X3 hown F_18 rfl 2 (by decide) (hts (.fieldLink RX5 196 "LazyState$Run" "done" "I") (by decide +kernel)) rfl dX5_told_109 ?_
    exact m_iret (v := dn_18) hx hb hr hlk hC hH rho rfl (Nat.le_of_ble_eq_true rfl) (Nat.le_of_ble_eq_true rfl) dX5_told_112
  · skip
    have jk_1 : w_.toInt = 8 := hk_1
    refine lv_tableIn (off := 112) (tgt := 113) hx hb dX5_told_1 (by rw [jk_1]; decide) (by rw [jk_1]; decide) (by rw [jk_1]; rfl) (by decide) ?_
    refine lv_aload_n hx hb dX5_told_113 rfl (lv_at hl 0 rfl) ?_
    obtain ⟨hn_19, cc_19, fc_19, cb_19, wn_19, vs_19, F_19, b3_19, b4_19⟩ : okLS k n (f (k 0)) := hI.ls
    refine m_get (ci := 5) (v := .int cc_19) (C := RX5) (T := TX5) (N := 14) hx hb hC hH hts in_X5_told_X5 hown F_19 rfl 7 (by decide) (hts (.fieldLink RX5 113 "LazyState" "callCount" "I") (by decide +kernel)) rfl dX5_told_114 ?_
    exact m_iret (v := cc_19) hx hb hr hlk hC hH rho rfl (Nat.le_of_ble_eq_true rfl) (Nat.le_of_ble_eq_true rfl) dX5_told_117
set_option maxHeartbeats 4000000 in
set_option maxRecDepth 100000 in
theorem c_X5_hint (l : Launch) (G : mG) (k : Nat → Nat) (rho : tR) (n : Nat) (T z : Nat → Nat) (st : Nat → Bool) (f : mF) (hI : IC G k rho n T z st f) (o : Int32) : Met l yX5_hint wsX5_hint ({ frames := 1, cells := 0, slots := 0, locals := 21 }) (va_Pc [.ref (k 0), .int o] (mW G f)) (va_Qi (fun (r : Int32) (u : mS) => IC G k u.1 n T z st u.2 ∧ frC k rho f u.1 u.2) (fun (u : mS) t => mW G u.2 t) (mA G)) 0 0 (mA G) := by
  refine mMet [.ref (k 0), .int o] (cc := cX5_hint) (maxL := 3) (ret := (some .int)) (by decide) rfl (Nat.le_of_ble_eq_true rfl) ?_
  intro p e s m below meth c ls hx hb hr hml hts hown hlk hnm hC hH hl
  have hl : lv_has ls 3 [(0, .ref (k 0)), (1, .int o)] := hl
  have hj := hI.2.2.2.2.1
  have hn24 := hI.2.2.2.2.2.2.1
  have hT3 := hI.2.2.2.2.2.2.2.1
  have hz32 := hI.2.2.2.2.2.2.2.2
  have nIn : (nI n).toInt = (n : Int) := nI_toInt (by omega)
  have hfr : frC k rho f rho f := frC.rf
  refine lv_aload_n hx hb dX5_hint_0 rfl (lv_at hl 0 rfl) ?_
  refine lv_iload_n hx hb dX5_hint_1 rfl (lv_at hl 1 rfl) ?_
  obtain ⟨hn_4, cc_4, fc_4, cb_4, wn_4, vs_4, F_4, b3_4, b4_4⟩ : okLS k n (f (k 0)) := hI.ls
  refine m_goi hH (va_runV (As := [.int o]) (rest := []) ⟨hx, hb, hml, hown, hts⟩ (c_X5_isObject l G k rho n T z st f hI o) (cwV 1 hts gX5_hint_X5_isObject rfl rfl rfl (by decide +kernel) ⟨Nat.le_of_ble_eq_true rfl, Nat.le_of_ble_eq_true rfl⟩) (m_preV (ci := 5) hC hH F_4 rfl) rfl rfl hl.1 rfl (lv_room (Nat.le_of_ble_eq_true rfl)) dX5_hint_2 ⟨Nat.le_of_ble_eq_true rfl, Nat.le_of_ble_eq_true rfl⟩) (fun r_1 rho_3 f_2 H locs hw hH => ?_)
  obtain ⟨hu, hr_1⟩ := hw
  have hu : f_2 = f := hu
  rw [hu] at hH
  refine lv_if_ne (tgt := 10) hx hb dX5_hint_5 (by decide) (fun c_5 => ?_) (fun c_5 => ?_)
  · skip
    have ic_5 : (r_1.toInt : Int) ≠ 0 := ic_ne rfl kI_0 c_5
    refine lv_iconst (v := 1) hx hb dX5_hint_10 (by decide) ?_
    refine lv_aload_n hx hb dX5_hint_11 rfl (lv_at hl 0 rfl) ?_
    refine m_get (ci := 5) (v := .int cb_4) (C := RX5) (T := TX5) (N := 14) hx hb hC hH hts in_X5_hint_X5 hown F_4 rfl 9 (by decide) (hts (.fieldLink RX5 122 "LazyState" "cachedBits" "I") (by decide +kernel)) rfl dX5_hint_12 ?_
    refine lv_iload_n hx hb dX5_hint_15 rfl (lv_at hl 1 rfl) ?_
    refine m_goi hH (va_runS (As := [.int cb_4, .int o]) (rest := [.int 1]) ⟨hx, hb, hml, hown, hts⟩ (c_X5_bitOf l G f cb_4 o) (va_cwS 2 hts gX5_hint_X5_bitOf rfl rfl rfl (by decide +kernel) ⟨Nat.le_of_ble_eq_true rfl, Nat.le_of_ble_eq_true rfl⟩) (m_preS hC hH) rfl rfl hl.1 rfl (lv_room (Nat.le_of_ble_eq_true rfl)) dX5_hint_16 ⟨Nat.le_of_ble_eq_true rfl, Nat.le_of_ble_eq_true rfl⟩) (fun r_6 rho_8 f_7 H locs hw hH => ?_)
    obtain ⟨hu, hr_6⟩ := hw
    have hu : f_7 = f := hu
    rw [hu] at hH
    have br_6 : r_6.toInt = 0 ∨ r_6.toInt = 1 := by rw [hr_6]; exact ic_and1 _
    refine lv_isub hx hb dX5_hint_19 ?_
    refine lv_topi (fun x_9 ex_9 => ?_)
    refine lv_istore_n (lv' := [(2, .int x_9), (0, .ref (k 0)), (1, .int o)]) hx hb dX5_hint_20 rfl hl (by decide) rfl (fun ls hl => ?_)
    refine lv_aload_n hx hb dX5_hint_21 rfl (lv_at hl 1 rfl) ?_
    refine lv_dup hx hb dX5_hint_22 rfl ?_
    refine m_get (ci := 5) (v := .int fc_4) (C := RX5) (T := TX5) (N := 14) hx hb hC hH hts in_X5_hint_X5 hown F_4 rfl 8 (by decide) (hts (.fieldLink RX5 116 "LazyState" "fetchCount" "I") (by decide +kernel)) rfl dX5_hint_23 ?_
    refine lv_iload_n hx hb dX5_hint_26 rfl (lv_at hl 0 rfl) ?_
    refine lv_iadd hx hb dX5_hint_27 ?_
    refine lv_topi (fun x_10 ex_10 => ?_)
    refine m_put (ci := 5) (v := .int x_10) (C := RX5) (T := TX5) (N := 14) hx hb hC hH hts in_X5_hint_X5 tyX5 tyX5_ok nmX5 hown F_4 rfl 8 (by decide) (hts (.fieldLink RX5 116 "LazyState" "fetchCount" "I") (by decide +kernel)) rfl rfl rfl (Nat.le_of_ble_eq_true rfl) dX5_hint_28 (fun H locs hH => ?_)
    have hH : mH G s (va_up f (k 0) (some (.inr (5, [.ref (k 1), .int (nI n), .int hn_4, .ref (k 2), .ref (k 5), .ref (k 13), .ref (k 21), .int cc_4, .int x_10, .int cb_4, .ref (k 3), .int wn_4, .ref (k 4), .int vs_4])))) H locs := hH
    obtain ⟨f_11, ef_11⟩ : ∃ zz_ : mF, zz_ = va_up f (k 0) (some (.inr (5, [.ref (k 1), .int (nI n), .int hn_4, .ref (k 2), .ref (k 5), .ref (k 13), .ref (k 21), .int cc_4, .int x_10, .int cb_4, .ref (k 3), .int wn_4, .ref (k 4), .int vs_4]))) := ⟨_, rfl⟩
    rw [← ef_11] at hH
    have F_12 : f_11 (k 0) = some (.inr (5, [.ref (k 1), .int (nI n), .int hn_4, .ref (k 2), .ref (k 5), .ref (k 13), .ref (k 21), .int cc_4, .int x_10, .int cb_4, .ref (k 3), .int wn_4, .ref (k 4), .int vs_4])) := by rw [ef_11]; exact va_up_self _ _ _
    have hI : IC G k rho n T z st f_11 := hI.set (j := 0) (by decide) ef_11 (fun i hi => by omega) (show okLS k n _ from ⟨_, _, _, _, _, _, rfl, by omega, by omega⟩)
    have hfr := hfr.upK (j := 0) (by omega) ef_11
    refine lv_aload_n hx hb dX5_hint_31 rfl (lv_at hl 1 rfl) ?_
    refine lv_dup hx hb dX5_hint_32 rfl ?_
    refine m_get (ci := 5) (v := .int cb_4) (C := RX5) (T := TX5) (N := 14) hx hb hC hH hts in_X5_hint_X5 hown F_12 rfl 9 (by decide) (hts (.fieldLink RX5 122 "LazyState" "cachedBits" "I") (by decide +kernel)) rfl dX5_hint_33 ?_
    refine lv_iconst (v := 1) hx hb dX5_hint_36 (by decide) ?_
    refine lv_iload_n hx hb dX5_hint_37 rfl (lv_at hl 2 rfl) ?_
    refine lv_ishl hx hb dX5_hint_38 ?_
    refine lv_topi (fun x_13 ex_13 => ?_)
    refine lv_ior hx hb dX5_hint_39 ?_
    refine lv_topi (fun x_14 ex_14 => ?_)
    refine m_put (ci := 5) (v := .int x_14) (C := RX5) (T := TX5) (N := 14) hx hb hC hH hts in_X5_hint_X5 tyX5 tyX5_ok nmX5 hown F_12 rfl 9 (by decide) (hts (.fieldLink RX5 122 "LazyState" "cachedBits" "I") (by decide +kernel)) rfl rfl rfl (Nat.le_of_ble_eq_true rfl) dX5_hint_40 (fun H locs hH => ?_)
    have hH : mH G s (va_up f_11 (k 0) (some (.inr (5, [.ref (k 1), .int (nI n), .int hn_4, .ref (k 2), .ref (k 5), .ref (k 13), .ref (k 21), .int cc_4, .int x_10, .int x_14, .ref (k 3), .int wn_4, .ref (k 4), .int vs_4])))) H locs := hH
    obtain ⟨f_15, ef_15⟩ : ∃ zz_ : mF, zz_ = va_up f_11 (k 0) (some (.inr (5, [.ref (k 1), .int (nI n), .int hn_4, .ref (k 2), .ref (k 5), .ref (k 13), .ref (k 21), .int cc_4, .int x_10, .int x_14, .ref (k 3), .int wn_4, .ref (k 4), .int vs_4]))) := ⟨_, rfl⟩
    rw [← ef_15] at hH
    have F_16 : f_15 (k 0) = some (.inr (5, [.ref (k 1), .int (nI n), .int hn_4, .ref (k 2), .ref (k 5), .ref (k 13), .ref (k 21), .int cc_4, .int x_10, .int x_14, .ref (k 3), .int wn_4, .ref (k 4), .int vs_4])) := by rw [ef_15]; exact va_up_self _ _ _
    have hI : IC G k rho n T z st f_15 := hI.set (j := 0) (by decide) ef_15 (fun i hi => by omega) (show okLS k n _ from ⟨_, _, _, _, _, _, rfl, by omega, by omega⟩)
    have hfr := hfr.upK (j := 0) (by omega) ef_15
    refine lv_iload_n hx hb dX5_hint_43 rfl (lv_at hl 0 rfl) ?_
    exact m_iret (v := x_9) hx hb hr hlk hC hH rho ⟨hI, hfr⟩ (Nat.le_of_ble_eq_true rfl) (Nat.le_of_ble_eq_true rfl) dX5_hint_44
  · skip
    have ic_5 : (r_1.toInt : Int) = 0 := ic_eq rfl kI_0 c_5
    refine lv_iconst (v := (-1)) hx hb dX5_hint_8 (by decide) ?_
    exact m_iret (v := (-1)) hx hb hr hlk hC hH rho ⟨hI, hfr⟩ (Nat.le_of_ble_eq_true rfl) (Nat.le_of_ble_eq_true rfl) dX5_hint_9
set_option maxHeartbeats 4000000 in
set_option maxRecDepth 100000 in
theorem c_X5_times (l : Launch) (G : mG) (k : Nat → Nat) (rho : tR) (n : Nat) (T z : Nat → Nat) (st : Nat → Bool) (f : mF) (hI : IC G k rho n T z st f) (j : Int32) : Met l yX5_times wsX5_times ({ frames := 2, cells := 0, slots := 0, locals := 43 }) (va_Pc [.ref (k 0), .int j] (mW G f)) (va_Qi (fun (r : Int32) (u : mS) => u.2 = f) (fun (u : mS) t => mW G u.2 t) (mA G)) 0 0 (mA G) := by
  refine mMet [.ref (k 0), .int j] (cc := cX5_times) (maxL := 2) (ret := (some .int)) (by decide) rfl (Nat.le_of_ble_eq_true rfl) ?_
  intro p e s m below meth c ls hx hb hr hml hts hown hlk hnm hC hH hl
  have hl : lv_has ls 2 [(0, .ref (k 0)), (1, .int j)] := hl
  have hj := hI.2.2.2.2.1
  have hn24 := hI.2.2.2.2.2.2.1
  have hT3 := hI.2.2.2.2.2.2.2.1
  have hz32 := hI.2.2.2.2.2.2.2.2
  have nIn : (nI n).toInt = (n : Int) := nI_toInt (by omega)
  have hfr : frC k rho f rho f := frC.rf
  refine lv_iload_n hx hb dX5_times_0 rfl (lv_at hl 1 rfl) ?_
  refine lv_if_lt (tgt := 19) hx hb dX5_times_1 (by decide) (fun c_1 => ?_) (fun c_1 => ?_)
  · skip
    have ic_1 : (j.toInt : Int) < 0 := ic_lt rfl kI_0 c_1
    refine lv_iconst (v := (-1)) hx hb dX5_times_19 (by decide) ?_
    exact m_iret (v := (-1)) hx hb hr hlk hC hH rho rfl (Nat.le_of_ble_eq_true rfl) (Nat.le_of_ble_eq_true rfl) dX5_times_20
  · skip
    have ic_1 : (j.toInt : Int) ≥ 0 := ic_nlt rfl kI_0 c_1
    refine lv_aload_n hx hb dX5_times_4 rfl (lv_at hl 0 rfl) ?_
    refine lv_iload_n hx hb dX5_times_5 rfl (lv_at hl 1 rfl) ?_
    refine lv_bipush (v := 8) hx hb dX5_times_6 (by decide) ?_
    refine lv_idiv hx hb dX5_times_8 (by decide) ?_
    refine lv_topi (fun x_2 ex_2 => ?_)
    have ix_2 : x_2.toInt = j.toInt / 8 := ic_div8 ex_2 rfl (by omega)
    refine lv_iload_n hx hb dX5_times_9 rfl (lv_at hl 1 rfl) ?_
    refine lv_bipush (v := 8) hx hb dX5_times_10 (by decide) ?_
    refine lv_irem hx hb dX5_times_12 (by decide) ?_
    refine lv_topi (fun x_3 ex_3 => ?_)
    have ix_3 : x_3.toInt = j.toInt % 8 := ic_rem8 ex_3 rfl (by omega)
    obtain ⟨hn_7, cc_7, fc_7, cb_7, wn_7, vs_7, F_7, b3_7, b4_7⟩ : okLS k n (f (k 0)) := hI.ls
    refine m_goi hH (va_runV (As := [.int x_2, .int x_3]) (rest := []) ⟨hx, hb, hml, hown, hts⟩ (c_X5_sortAt l G k rho n T z st f hI x_2 x_3) (cwV 2 hts gX5_times_X5_sortAt rfl rfl rfl (by decide +kernel) ⟨Nat.le_of_ble_eq_true rfl, Nat.le_of_ble_eq_true rfl⟩) (m_preV (ci := 5) hC hH F_7 rfl) rfl rfl hl.1 rfl (lv_room (Nat.le_of_ble_eq_true rfl)) dX5_times_13 ⟨Nat.le_of_ble_eq_true rfl, Nat.le_of_ble_eq_true rfl⟩) (fun r_4 rho_6 f_5 H locs hw hH => ?_)
    obtain ⟨hu, hr_4⟩ := hw
    have hu : f_5 = f := hu
    rw [hu] at hH
    refine lv_if_ne (tgt := 21) hx hb dX5_times_16 (by decide) (fun c_8 => ?_) (fun c_8 => ?_)
    · skip
      have ic_8 : (r_4.toInt : Int) ≠ 0 := ic_ne rfl kI_0 c_8
      have sa_ := hr_4.resolve_right (fun q => by omega)
      refine lv_aload_n hx hb dX5_times_21 rfl (lv_at hl 0 rfl) ?_
      refine m_get (ci := 5) (v := .ref (k 4)) (C := RX5) (T := TX5) (N := 14) hx hb hC hH hts in_X5_times_X5 hown F_7 rfl 12 (by decide) (hts (.fieldLink RX5 38 "LazyState" "writeCounts" "[I") (by decide +kernel)) rfl dX5_times_22 ?_
      refine lv_iload_n hx hb dX5_times_25 rfl (lv_at hl 1 rfl) ?_
      obtain ⟨g_9, hg_9, hp_9⟩ : okI G 0 192 (fun _ => True) (f (k 4)) := hI.plain (by decide) (by decide)
      refine m_iald hx hb hC hH hg_9 (vp_in_iff.mpr ⟨by omega, by omega⟩) dX5_times_26 ?_
      refine lv_topi (fun x_10 ex_10 => ?_)
      exact m_iret (v := x_10) hx hb hr hlk hC hH rho rfl (Nat.le_of_ble_eq_true rfl) (Nat.le_of_ble_eq_true rfl) dX5_times_27
    · skip
      have ic_8 : (r_4.toInt : Int) = 0 := ic_eq rfl kI_0 c_8
      refine lv_iconst (v := (-1)) hx hb dX5_times_19 (by decide) ?_
      exact m_iret (v := (-1)) hx hb hr hlk hC hH rho rfl (Nat.le_of_ble_eq_true rfl) (Nat.le_of_ble_eq_true rfl) dX5_times_20
set_option maxHeartbeats 4000000 in
set_option maxRecDepth 100000 in
theorem c_X5_view (l : Launch) (G : mG) (k : Nat → Nat) (rho : tR) (n : Nat) (T z : Nat → Nat) (st : Nat → Bool) (f : mF) (hI : IC G k rho n T z st f) (o j hh_ i_ : Int32) : Met l yX5_view wsX5_view ({ frames := 2, cells := 0, slots := 0, locals := 43 }) (va_Pc [.ref (k 0), .int o, .int j, .int hh_, .int i_] (mW G f)) (va_Ql (fun (r : Int64) (u : mS) => IC G k u.1 n T z st u.2 ∧ frC k rho f u.1 u.2) (fun (u : mS) t => mW G u.2 t) (mA G)) 0 0 (mA G) := by
  refine mMet [.ref (k 0), .int o, .int j, .int hh_, .int i_] (cc := cX5_view) (maxL := 7) (ret := (some .long)) (by decide) rfl (Nat.le_of_ble_eq_true rfl) ?_
  intro p e s m below meth c ls hx hb hr hml hts hown hlk hnm hC hH hl
  have hl : lv_has ls 7 [(0, .ref (k 0)), (1, .int o), (2, .int j), (3, .int hh_), (4, .int i_)] := hl
  have hj := hI.2.2.2.2.1
  have hn24 := hI.2.2.2.2.2.2.1
  have hT3 := hI.2.2.2.2.2.2.2.1
  have hz32 := hI.2.2.2.2.2.2.2.2
  have nIn : (nI n).toInt = (n : Int) := nI_toInt (by omega)
  have hfr : frC k rho f rho f := frC.rf
  refine lv_aload_n hx hb dX5_view_0 rfl (lv_at hl 0 rfl) ?_
  refine lv_iconst (v := (-1)) hx hb dX5_view_1 (by decide) ?_
  obtain ⟨hn_1, cc_1, fc_1, cb_1, wn_1, vs_1, F_1, b3_1, b4_1⟩ : okLS k n (f (k 0)) := hI.ls
  refine m_put (ci := 5) (v := .int (-1)) (C := RX5) (T := TX5) (N := 14) hx hb hC hH hts in_X5_view_X5 tyX5 tyX5_ok nmX5 hown F_1 rfl 13 (by decide) (hts (.fieldLink RX5 41 "LazyState" "viewStatus" "I") (by decide +kernel)) rfl rfl rfl (Nat.le_of_ble_eq_true rfl) dX5_view_2 (fun H locs hH => ?_)
  have hH : mH G s (va_up f (k 0) (some (.inr (5, [.ref (k 1), .int (nI n), .int hn_1, .ref (k 2), .ref (k 5), .ref (k 13), .ref (k 21), .int cc_1, .int fc_1, .int cb_1, .ref (k 3), .int wn_1, .ref (k 4), .int (-1)])))) H locs := hH
  obtain ⟨f_2, ef_2⟩ : ∃ zz_ : mF, zz_ = va_up f (k 0) (some (.inr (5, [.ref (k 1), .int (nI n), .int hn_1, .ref (k 2), .ref (k 5), .ref (k 13), .ref (k 21), .int cc_1, .int fc_1, .int cb_1, .ref (k 3), .int wn_1, .ref (k 4), .int (-1)]))) := ⟨_, rfl⟩
  rw [← ef_2] at hH
  have F_3 : f_2 (k 0) = some (.inr (5, [.ref (k 1), .int (nI n), .int hn_1, .ref (k 2), .ref (k 5), .ref (k 13), .ref (k 21), .int cc_1, .int fc_1, .int cb_1, .ref (k 3), .int wn_1, .ref (k 4), .int (-1)])) := by rw [ef_2]; exact va_up_self _ _ _
  have hI : IC G k rho n T z st f_2 := hI.set (j := 0) (by decide) ef_2 (fun i hi => by omega) (show okLS k n _ from ⟨_, _, _, _, _, _, rfl, by omega, by omega⟩)
  have hfr := hfr.upK (j := 0) (by omega) ef_2
  refine lv_aload_n hx hb dX5_view_5 rfl (lv_at hl 0 rfl) ?_
  refine lv_iload_n hx hb dX5_view_6 rfl (lv_at hl 1 rfl) ?_
  refine lv_iload_n hx hb dX5_view_7 rfl (lv_at hl 2 rfl) ?_
  refine m_goi hH (va_runV (As := [.int o, .int j]) (rest := []) ⟨hx, hb, hml, hown, hts⟩ (c_X5_sortAt l G k rho n T z st f_2 hI o j) (cwV 2 hts gX5_view_X5_sortAt rfl rfl rfl (by decide +kernel) ⟨Nat.le_of_ble_eq_true rfl, Nat.le_of_ble_eq_true rfl⟩) (m_preV (ci := 5) hC hH F_3 rfl) rfl rfl hl.1 rfl (lv_room (Nat.le_of_ble_eq_true rfl)) dX5_view_8 ⟨Nat.le_of_ble_eq_true rfl, Nat.le_of_ble_eq_true rfl⟩) (fun r_4 rho_6 f_5 H locs hw hH => ?_)
  obtain ⟨hu, hr_4⟩ := hw
  have hu : f_5 = f_2 := hu
  rw [hu] at hH
  refine lv_istore (lv' := [(5, .int r_4), (0, .ref (k 0)), (1, .int o), (2, .int j), (3, .int hh_), (4, .int i_)]) hx hb dX5_view_11 hl (by decide) rfl (fun ls hl => ?_)
  refine lv_iload hx hb dX5_view_13 (lv_at hl 0 rfl) ?_
  refine lv_if_eq (tgt := 30) hx hb dX5_view_15 (by decide) (fun c_7 => ?_) (fun c_7 => ?_)
  · skip
    have ic_7 : (r_4.toInt : Int) = 0 := ic_eq rfl kI_0 c_7
    refine lv_ldc2 (v := (-1)) hx hb hown (hts (.constantLong RX5 173 (-1)) (by decide +kernel)) dX5_view_30 ?_
    exact m_lret (v := (-1)) hx hb hr hlk hC hH rho ⟨hI, hfr⟩ (Nat.le_of_ble_eq_true rfl) (Nat.le_of_ble_eq_true rfl) dX5_view_33
  · skip
    have ic_7 : (r_4.toInt : Int) ≠ 0 := ic_ne rfl kI_0 c_7
    obtain ⟨s1_, s2_, s3_, s4_, s5_⟩ := hr_4.resolve_right (fun q => by omega)
    refine lv_iload_n hx hb dX5_view_18 rfl (lv_at hl 4 rfl) ?_
    refine lv_if_lt (tgt := 30) hx hb dX5_view_19 (by decide) (fun c_8 => ?_) (fun c_8 => ?_)
    · skip
      have ic_8 : (hh_.toInt : Int) < 0 := ic_lt rfl kI_0 c_8
      refine lv_ldc2 (v := (-1)) hx hb hown (hts (.constantLong RX5 173 (-1)) (by decide +kernel)) dX5_view_30 ?_
      exact m_lret (v := (-1)) hx hb hr hlk hC hH rho ⟨hI, hfr⟩ (Nat.le_of_ble_eq_true rfl) (Nat.le_of_ble_eq_true rfl) dX5_view_33
    · skip
      have ic_8 : (hh_.toInt : Int) ≥ 0 := ic_nlt rfl kI_0 c_8
      refine lv_iload_n hx hb dX5_view_22 rfl (lv_at hl 4 rfl) ?_
      refine lv_aload_n hx hb dX5_view_23 rfl (lv_at hl 1 rfl) ?_
      refine m_get (ci := 5) (v := .int hn_1) (C := RX5) (T := TX5) (N := 14) hx hb hC hH hts in_X5_view_X5 hown F_3 rfl 2 (by decide) (hts (.fieldLink RX5 68 "LazyState" "heightNow" "I") (by decide +kernel)) rfl dX5_view_24 ?_
      refine lv_icmp_le (tgt := 34) hx hb dX5_view_27 (by decide) (fun c_9 => ?_) (fun c_9 => ?_)
      · skip
        have ic_9 : (hh_.toInt : Int) ≤ hn_1.toInt := ic_le rfl rfl c_9
        refine lv_aload_n hx hb dX5_view_34 rfl (lv_at hl 1 rfl) ?_
        refine m_get (ci := 5) (v := .ref (k 1)) (C := RX5) (T := TX5) (N := 14) hx hb hC hH hts in_X5_view_X5 hown F_3 rfl 0 (by decide) (hts (.fieldLink RX5 11 "LazyState" "objects" "[LLazyState$Body;") (by decide +kernel)) rfl dX5_view_35 ?_
        refine lv_iload_n hx hb dX5_view_38 rfl (lv_at hl 2 rfl) ?_
        obtain ⟨g_10, hg_10, hp_10⟩ : okQ G 3 24 (fun g => ∀ o, o < n → ∃ b, g o = some b ∧ rho b = (1, T o)) (f_2 (k 1)) := hI.objs
        refine m_aald hx hb hC hH 3 rfl hg_10 (vp_in_iff.mpr ⟨by omega, by omega⟩) dX5_view_39 ?_
        obtain ⟨o_11, h1o_11, h2o_11⟩ := hp_10 (o.toNatClampNeg) (ic_cl rfl (by omega) (by omega))
        rw [h1o_11]
        refine lv_iload_n hx hb dX5_view_40 rfl (lv_at hl 4 rfl) ?_
        obtain ⟨ca_15, ia_15, si_15, bf_15, F_15, hca_15, hia_15, hbf_15⟩ : okB rho (T (o.toNatClampNeg)) o_11 (f_2 o_11) := hI.pool h2o_11
        have tI_15 : (nI (T (o.toNatClampNeg))).toInt = (T (o.toNatClampNeg) : Int) := nI_toInt (by have := hT3 (o.toNatClampNeg); omega)
        refine m_goq hH (va_runV (As := [.int hh_]) (rest := []) ⟨hx, hb, hml, hown, hts⟩ (c_X2_asOf l G k rho n T z st f_2 hI o_11 (T (o.toNatClampNeg)) h2o_11 (hT3 _) hh_) (cwV 1 hts gX5_view_X2_asOf rfl rfl rfl (by decide +kernel) ⟨Nat.le_of_ble_eq_true rfl, Nat.le_of_ble_eq_true rfl⟩) (m_preV (ci := 2) hC hH F_15 rfl) rfl rfl hl.1 rfl (lv_room (Nat.le_of_ble_eq_true rfl)) dX5_view_41 ⟨Nat.le_of_ble_eq_true rfl, Nat.le_of_ble_eq_true rfl⟩) (fun r_12 rho_14 f_13 H locs hw hH => ?_)
        obtain ⟨hu, hr_12⟩ := hw
        have hu : f_13 = f_2 := hu
        rw [hu] at hH
        obtain ⟨ab_r_12, h1_r_12, h2_r_12⟩ := hr_12
        rw [h1_r_12]
        refine lv_astore (lv' := [(6, .ref ab_r_12), (5, .int r_4), (0, .ref (k 0)), (1, .int o), (2, .int j), (3, .int hh_), (4, .int i_)]) hx hb dX5_view_44 hl (by decide) rfl (fun ls hl => ?_)
        refine lv_iload hx hb dX5_view_46 (lv_at hl 6 rfl) ?_
        refine lv_bipush (v := (-3)) hx hb dX5_view_48 (by decide) ?_
        refine lv_icmp_ne (tgt := 66) hx hb dX5_view_50 (by decide) (fun c_16 => ?_) (fun c_16 => ?_)
        · skip
          have ic_16 : (i_.toInt : Int) ≠ (-3) := ic_ne rfl kI_m3 c_16
          refine lv_iload hx hb dX5_view_66 (lv_at hl 1 rfl) ?_
          refine lv_iconst (v := 3) hx hb dX5_view_68 (by decide) ?_
          refine lv_icmp_ne (tgt := 84) hx hb dX5_view_69 (by decide) (fun c_17 => ?_) (fun c_17 => ?_)
          · skip
            have ic_17 : (r_4.toInt : Int) ≠ 3 := ic_ne rfl kI_3 c_17
            refine lv_ldc2 (v := (-1)) hx hb hown (hts (.constantLong RX5 173 (-1)) (by decide +kernel)) dX5_view_84 ?_
            exact m_lret (v := (-1)) hx hb hr hlk hC hH rho ⟨hI, hfr⟩ (Nat.le_of_ble_eq_true rfl) (Nat.le_of_ble_eq_true rfl) dX5_view_87
          · skip
            have ic_17 : (r_4.toInt : Int) = 3 := ic_eq rfl kI_3 c_17
            have hs3_ : sortF (8 * T o.toNatClampNeg + j.toNatClampNeg) = 3 := s5_.symm.trans (Int32.toInt_inj.mp (by have := kI_3; omega))
            refine lv_aload hx hb dX5_view_72 (lv_at hl 0 rfl) ?_
            refine lv_iload_n hx hb dX5_view_74 rfl (lv_at hl 4 rfl) ?_
            refine lv_iload hx hb dX5_view_75 (lv_at hl 6 rfl) ?_
            refine lv_i2l hx hb dX5_view_77 rfl ?_
            refine lv_topl (fun y_18 ey_18 => ?_)
            have iy_18 : y_18.toInt = i_.toInt := lc_i2l ey_18 rfl
            have gy_18 := ic_rng i_
            obtain ⟨ca_22, ia_22, si_22, bf_22, F_22, hca_22, hia_22, hbf_22⟩ : okB rho (T (o.toNatClampNeg)) ab_r_12 (f_2 ab_r_12) := hI.pool h2_r_12
            have tI_22 : (nI (T (o.toNatClampNeg))).toInt = (T (o.toNatClampNeg) : Int) := nI_toInt (by have := hT3 (o.toNatClampNeg); omega)
            refine m_goi hH (va_runV (As := [.int j, .long y_18]) (rest := []) ⟨hx, hb, hml, hown, hts⟩ (c_X2_hasItem l G k rho n T z st f_2 hI ab_r_12 (T (o.toNatClampNeg)) h2_r_12 (hT3 _) j y_18 (by omega)) (cwV 2 hts gX5_view_X2_hasItem rfl rfl rfl (by decide +kernel) ⟨Nat.le_of_ble_eq_true rfl, Nat.le_of_ble_eq_true rfl⟩) (m_preV (ci := 2) hC hH F_22 rfl) rfl rfl hl.1 rfl (lv_room (Nat.le_of_ble_eq_true rfl)) dX5_view_78 ⟨Nat.le_of_ble_eq_true rfl, Nat.le_of_ble_eq_true rfl⟩) (fun r_19 rho_21 f_20 H locs hw hH => ?_)
            obtain ⟨hu, hr_19⟩ := hw
            have hu : f_20 = f_2 := hu
            rw [hu] at hH
            refine lv_if_ne (tgt := 88) hx hb dX5_view_81 (by decide) (fun c_23 => ?_) (fun c_23 => ?_)
            · skip
              have ic_23 : (r_19.toInt : Int) ≠ 0 := ic_ne rfl kI_0 c_23
              have hit_ := hr_19.resolve_right (fun q => by omega)
              have hi8_ := hit_.2.2 hs3_
              refine lv_aload_n hx hb dX5_view_88 rfl (lv_at hl 2 rfl) ?_
              refine lv_iconst (v := 0) hx hb dX5_view_89 (by decide) ?_
              refine m_put (ci := 5) (v := .int 0) (C := RX5) (T := TX5) (N := 14) hx hb hC hH hts in_X5_view_X5 tyX5 tyX5_ok nmX5 hown F_3 rfl 13 (by decide) (hts (.fieldLink RX5 41 "LazyState" "viewStatus" "I") (by decide +kernel)) rfl rfl rfl (Nat.le_of_ble_eq_true rfl) dX5_view_90 (fun H locs hH => ?_)
              have hH : mH G s (va_up f_2 (k 0) (some (.inr (5, [.ref (k 1), .int (nI n), .int hn_1, .ref (k 2), .ref (k 5), .ref (k 13), .ref (k 21), .int cc_1, .int fc_1, .int cb_1, .ref (k 3), .int wn_1, .ref (k 4), .int 0])))) H locs := hH
              obtain ⟨f_24, ef_24⟩ : ∃ zz_ : mF, zz_ = va_up f_2 (k 0) (some (.inr (5, [.ref (k 1), .int (nI n), .int hn_1, .ref (k 2), .ref (k 5), .ref (k 13), .ref (k 21), .int cc_1, .int fc_1, .int cb_1, .ref (k 3), .int wn_1, .ref (k 4), .int 0]))) := ⟨_, rfl⟩
              rw [← ef_24] at hH
              have F_25 := upk F_15 ef_24 (hI.nk (j := 0) (by omega) (by rw [h2o_11]; simp))
              have F_26 := upk F_22 ef_24 (hI.nk (j := 0) (by omega) (by rw [h2_r_12]; simp))
              have F_27 : f_24 (k 0) = some (.inr (5, [.ref (k 1), .int (nI n), .int hn_1, .ref (k 2), .ref (k 5), .ref (k 13), .ref (k 21), .int cc_1, .int fc_1, .int cb_1, .ref (k 3), .int wn_1, .ref (k 4), .int 0])) := by rw [ef_24]; exact va_up_self _ _ _
              have hI : IC G k rho n T z st f_24 := hI.set (j := 0) (by decide) ef_24 (fun i hi => by omega) (show okLS k n _ from ⟨_, _, _, _, _, _, rfl, by omega, by omega⟩)
              have hfr := hfr.upK (j := 0) (by omega) ef_24
              refine lv_aload hx hb dX5_view_93 (lv_at hl 0 rfl) ?_
              refine m_get (ci := 2) (v := .ref ia_22) (C := RX2) (T := TX2) (N := 5) hx hb hC hH hts in_X5_view_X2 hown F_26 rfl 2 (by decide) (hts (.fieldLink RX5 187 "LazyState$Body" "items" "[I") (by decide +kernel)) rfl dX5_view_95 ?_
              refine lv_iload_n hx hb dX5_view_98 rfl (lv_at hl 4 rfl) ?_
              refine lv_iload hx hb dX5_view_99 (lv_at hl 6 rfl) ?_
              refine m_goi hH (va_runS (As := [.int j, .int i_]) (rest := [.ref ia_22]) ⟨hx, hb, hml, hown, hts⟩ (c_X2_itemPlace l G f_24 j i_ (by omega)) (va_cwS 2 hts gX5_view_X2_itemPlace rfl rfl rfl (by decide +kernel) ⟨Nat.le_of_ble_eq_true rfl, Nat.le_of_ble_eq_true rfl⟩) (m_preS hC hH) rfl rfl hl.1 rfl (lv_room (Nat.le_of_ble_eq_true rfl)) dX5_view_101 ⟨Nat.le_of_ble_eq_true rfl, Nat.le_of_ble_eq_true rfl⟩) (fun r_28 rho_30 f_29 H locs hw hH => ?_)
              obtain ⟨hu, hr_28⟩ := hw
              have hu : f_29 = f_24 := hu
              rw [hu] at hH
              obtain ⟨g_31, hg_31, hp_31⟩ : okI G 0 16 (fun _ => True) (f_24 ia_22) := hI.pool hia_22
              refine m_iald hx hb hC hH hg_31 (vp_in_iff.mpr ⟨by omega, by omega⟩) dX5_view_104 ?_
              refine lv_topi (fun x_32 ex_32 => ?_)
              refine lv_i2l hx hb dX5_view_105 rfl ?_
              refine lv_topl (fun y_33 ey_33 => ?_)
              have iy_33 : y_33.toInt = x_32.toInt := lc_i2l ey_33 rfl
              have gy_33 := ic_rng x_32
              exact m_lret (v := y_33) hx hb hr hlk hC hH rho ⟨hI, hfr⟩ (Nat.le_of_ble_eq_true rfl) (Nat.le_of_ble_eq_true rfl) dX5_view_106
            · skip
              have ic_23 : (r_19.toInt : Int) = 0 := ic_eq rfl kI_0 c_23
              refine lv_ldc2 (v := (-1)) hx hb hown (hts (.constantLong RX5 173 (-1)) (by decide +kernel)) dX5_view_84 ?_
              exact m_lret (v := (-1)) hx hb hr hlk hC hH rho ⟨hI, hfr⟩ (Nat.le_of_ble_eq_true rfl) (Nat.le_of_ble_eq_true rfl) dX5_view_87
        · skip
          have ic_16 : (i_.toInt : Int) = (-3) := ic_eq rfl kI_m3 c_16
          refine lv_aload_n hx hb dX5_view_53 rfl (lv_at hl 2 rfl) ?_
          refine lv_iconst (v := 0) hx hb dX5_view_54 (by decide) ?_
          refine m_put (ci := 5) (v := .int 0) (C := RX5) (T := TX5) (N := 14) hx hb hC hH hts in_X5_view_X5 tyX5 tyX5_ok nmX5 hown F_3 rfl 13 (by decide) (hts (.fieldLink RX5 41 "LazyState" "viewStatus" "I") (by decide +kernel)) rfl rfl rfl (Nat.le_of_ble_eq_true rfl) dX5_view_55 (fun H locs hH => ?_)
          have hH : mH G s (va_up f_2 (k 0) (some (.inr (5, [.ref (k 1), .int (nI n), .int hn_1, .ref (k 2), .ref (k 5), .ref (k 13), .ref (k 21), .int cc_1, .int fc_1, .int cb_1, .ref (k 3), .int wn_1, .ref (k 4), .int 0])))) H locs := hH
          obtain ⟨f_34, ef_34⟩ : ∃ zz_ : mF, zz_ = va_up f_2 (k 0) (some (.inr (5, [.ref (k 1), .int (nI n), .int hn_1, .ref (k 2), .ref (k 5), .ref (k 13), .ref (k 21), .int cc_1, .int fc_1, .int cb_1, .ref (k 3), .int wn_1, .ref (k 4), .int 0]))) := ⟨_, rfl⟩
          rw [← ef_34] at hH
          have F_35 := upk F_15 ef_34 (hI.nk (j := 0) (by omega) (by rw [h2o_11]; simp))
          have F_36 : f_34 (k 0) = some (.inr (5, [.ref (k 1), .int (nI n), .int hn_1, .ref (k 2), .ref (k 5), .ref (k 13), .ref (k 21), .int cc_1, .int fc_1, .int cb_1, .ref (k 3), .int wn_1, .ref (k 4), .int 0])) := by rw [ef_34]; exact va_up_self _ _ _
          have hI : IC G k rho n T z st f_34 := hI.set (j := 0) (by decide) ef_34 (fun i hi => by omega) (show okLS k n _ from ⟨_, _, _, _, _, _, rfl, by omega, by omega⟩)
          have hfr := hfr.upK (j := 0) (by omega) ef_34
          refine lv_aload hx hb dX5_view_58 (lv_at hl 0 rfl) ?_
          obtain ⟨ca_37, ia_37, si_37, bf_37, F_37, hca_37, hia_37, hbf_37⟩ : okB rho (T (o.toNatClampNeg)) ab_r_12 (f_34 ab_r_12) := hI.pool h2_r_12
          have tI_37 : (nI (T (o.toNatClampNeg))).toInt = (T (o.toNatClampNeg) : Int) := nI_toInt (by have := hT3 (o.toNatClampNeg); omega)
          refine m_get (ci := 2) (v := .ref ca_37) (C := RX2) (T := TX2) (N := 5) hx hb hC hH hts in_X5_view_X2 hown F_37 rfl 1 (by decide) (hts (.fieldLink RX5 179 "LazyState$Body" "cells" "[J") (by decide +kernel)) rfl dX5_view_60 ?_
          refine lv_iload_n hx hb dX5_view_63 rfl (lv_at hl 4 rfl) ?_
          obtain ⟨g_38, hg_38, hp_38⟩ : okJ G 8 (pCl n (T (o.toNatClampNeg))) (f_34 ca_37) := hI.pool hca_37
          refine m_lald hx hb hC hH hg_38 (vp_in_iff.mpr ⟨by omega, by omega⟩) dX5_view_64 ?_
          refine lv_topl (fun y_39 ey_39 => ?_)
          exact m_lret (v := y_39) hx hb hr hlk hC hH rho ⟨hI, hfr⟩ (Nat.le_of_ble_eq_true rfl) (Nat.le_of_ble_eq_true rfl) dX5_view_65
      · skip
        have ic_9 : (hh_.toInt : Int) > hn_1.toInt := ic_nle rfl rfl c_9
        refine lv_ldc2 (v := (-1)) hx hb hown (hts (.constantLong RX5 173 (-1)) (by decide +kernel)) dX5_view_30 ?_
        exact m_lret (v := (-1)) hx hb hr hlk hC hH rho ⟨hI, hfr⟩ (Nat.le_of_ble_eq_true rfl) (Nat.le_of_ble_eq_true rfl) dX5_view_33
set_option maxHeartbeats 4000000 in
set_option maxRecDepth 100000 in
theorem c_X5_raiseHeight (l : Launch) (G : mG) (k : Nat → Nat) (rho : tR) (n : Nat) (T z : Nat → Nat) (st : Nat → Bool) (f : mF) (hI : IC G k rho n T z st f) : Met l yX5_raiseHeight wsX5_raiseHeight ({ frames := 0, cells := 0, slots := 0, locals := 0 }) (va_Pc [.ref (k 0)] (mW G f)) (va_Qv (fun (u : mS) => u.1 = rho ∧ IC G k rho n T z st u.2 ∧ frC k rho f rho u.2 ∧ fldV u.2 (k 0) 11 = fldV f (k 0) 11) (fun (u : mS) t => mW G u.2 t) (mA G)) 0 0 (mA G) := by
  refine mMet [.ref (k 0)] (cc := cX5_raiseHeight) (maxL := 1) (ret := none) (by decide) rfl (Nat.le_of_ble_eq_true rfl) ?_
  intro p e s m below meth c ls hx hb hr hml hts hown hlk hnm hC hH hl
  have hl : lv_has ls 1 [(0, .ref (k 0))] := hl
  have hj := hI.2.2.2.2.1
  have hn24 := hI.2.2.2.2.2.2.1
  have hT3 := hI.2.2.2.2.2.2.2.1
  have hz32 := hI.2.2.2.2.2.2.2.2
  have nIn : (nI n).toInt = (n : Int) := nI_toInt (by omega)
  have hfr : frC k rho f rho f := frC.rf
  have hk11_ : True := trivial
  obtain ⟨hn_1, cc_1, fc_1, cb_1, wn_1, vs_1, F_1, b3_1, b4_1⟩ : okLS k n (f (k 0)) := hI.ls
  have kin_ := fldV_eq F_1 11
  refine lv_aload_n hx hb dX5_raiseHeight_0 rfl (lv_at hl 0 rfl) ?_
  refine lv_dup hx hb dX5_raiseHeight_1 rfl ?_
  refine m_get (ci := 5) (v := .int hn_1) (C := RX5) (T := TX5) (N := 14) hx hb hC hH hts in_X5_raiseHeight_X5 hown F_1 rfl 2 (by decide) (hts (.fieldLink RX5 68 "LazyState" "heightNow" "I") (by decide +kernel)) rfl dX5_raiseHeight_2 ?_
  refine lv_iconst (v := 1) hx hb dX5_raiseHeight_5 (by decide) ?_
  refine lv_iadd hx hb dX5_raiseHeight_6 ?_
  refine lv_topi (fun x_2 ex_2 => ?_)
  refine m_put (ci := 5) (v := .int x_2) (C := RX5) (T := TX5) (N := 14) hx hb hC hH hts in_X5_raiseHeight_X5 tyX5 tyX5_ok nmX5 hown F_1 rfl 2 (by decide) (hts (.fieldLink RX5 68 "LazyState" "heightNow" "I") (by decide +kernel)) rfl rfl rfl (Nat.le_of_ble_eq_true rfl) dX5_raiseHeight_7 (fun H locs hH => ?_)
  have hH : mH G s (va_up f (k 0) (some (.inr (5, [.ref (k 1), .int (nI n), .int x_2, .ref (k 2), .ref (k 5), .ref (k 13), .ref (k 21), .int cc_1, .int fc_1, .int cb_1, .ref (k 3), .int wn_1, .ref (k 4), .int vs_1])))) H locs := hH
  obtain ⟨f_3, ef_3⟩ : ∃ zz_ : mF, zz_ = va_up f (k 0) (some (.inr (5, [.ref (k 1), .int (nI n), .int x_2, .ref (k 2), .ref (k 5), .ref (k 13), .ref (k 21), .int cc_1, .int fc_1, .int cb_1, .ref (k 3), .int wn_1, .ref (k 4), .int vs_1]))) := ⟨_, rfl⟩
  rw [← ef_3] at hH
  have F_4 : f_3 (k 0) = some (.inr (5, [.ref (k 1), .int (nI n), .int x_2, .ref (k 2), .ref (k 5), .ref (k 13), .ref (k 21), .int cc_1, .int fc_1, .int cb_1, .ref (k 3), .int wn_1, .ref (k 4), .int vs_1])) := by rw [ef_3]; exact va_up_self _ _ _
  have hI : IC G k rho n T z st f_3 := hI.set (j := 0) (by decide) ef_3 (fun i hi => by omega) (show okLS k n _ from ⟨_, _, _, _, _, _, rfl, by omega, by omega⟩)
  have hfr := hfr.upK (j := 0) (by omega) ef_3
  refine lv_aload_n hx hb dX5_raiseHeight_10 rfl (lv_at hl 0 rfl) ?_
  refine lv_iconst (v := 0) hx hb dX5_raiseHeight_11 (by decide) ?_
  refine m_put (ci := 5) (v := .int 0) (C := RX5) (T := TX5) (N := 14) hx hb hC hH hts in_X5_raiseHeight_X5 tyX5 tyX5_ok nmX5 hown F_4 rfl 9 (by decide) (hts (.fieldLink RX5 122 "LazyState" "cachedBits" "I") (by decide +kernel)) rfl rfl rfl (Nat.le_of_ble_eq_true rfl) dX5_raiseHeight_12 (fun H locs hH => ?_)
  have hH : mH G s (va_up f_3 (k 0) (some (.inr (5, [.ref (k 1), .int (nI n), .int x_2, .ref (k 2), .ref (k 5), .ref (k 13), .ref (k 21), .int cc_1, .int fc_1, .int 0, .ref (k 3), .int wn_1, .ref (k 4), .int vs_1])))) H locs := hH
  obtain ⟨f_5, ef_5⟩ : ∃ zz_ : mF, zz_ = va_up f_3 (k 0) (some (.inr (5, [.ref (k 1), .int (nI n), .int x_2, .ref (k 2), .ref (k 5), .ref (k 13), .ref (k 21), .int cc_1, .int fc_1, .int 0, .ref (k 3), .int wn_1, .ref (k 4), .int vs_1]))) := ⟨_, rfl⟩
  rw [← ef_5] at hH
  have F_6 : f_5 (k 0) = some (.inr (5, [.ref (k 1), .int (nI n), .int x_2, .ref (k 2), .ref (k 5), .ref (k 13), .ref (k 21), .int cc_1, .int fc_1, .int 0, .ref (k 3), .int wn_1, .ref (k 4), .int vs_1])) := by rw [ef_5]; exact va_up_self _ _ _
  have hI : IC G k rho n T z st f_5 := hI.set (j := 0) (by decide) ef_5 (fun i hi => by omega) (show okLS k n _ from ⟨_, _, _, _, _, _, rfl, by omega, by omega⟩)
  have hfr := hfr.upK (j := 0) (by omega) ef_5
  exact m_vret hx hb hr hlk hC hH rho ⟨rfl, hI, hfr, (fldV_eq F_6 11).trans kin_.symm⟩ (Nat.le_of_ble_eq_true rfl) (Nat.le_of_ble_eq_true rfl) dX5_raiseHeight_15
