set_option maxHeartbeats 4000000 in
set_option maxRecDepth 100000 in
theorem c_X5_object (l : Launch) (G : mG) (k : Nat → Nat) (rho : tR) (n : Nat) (T z : Nat → Nat) (st : Nat → Bool) (f : mF) (hI : IC G k rho n T z st f) (ty : Int32) : Met l yX5_object wsX5_object ({ frames := 2, cells := 3, slots := 29, locals := 35 }) (va_Pc [.ref (k 0), .int ty] (mW G f)) (va_Qi (fun (r : Int32) (u : mS) => frC k rho f u.1 u.2 ∧ (((ty.toInt < 0 ∨ 3 ≤ ty.toInt) ∧ r.toInt = -1 ∧ IC G k u.1 n T z st u.2) ∨ (0 ≤ ty.toInt ∧ ty.toInt < 3 ∧ n = 24 ∧ r.toInt = -2 ∧ IC G k u.1 n T z st u.2) ∨ (0 ≤ ty.toInt ∧ ty.toInt < 3 ∧ n < 24 ∧ r.toInt = n ∧ IC G k u.1 (n + 1) (fun o => if o = n then ty.toNatClampNeg else T o) z st u.2))) (fun (u : mS) t => mW G u.2 t) (mA G)) 3 29 (mA G) := by
  refine mMet [.ref (k 0), .int ty] (cc := cX5_object) (maxL := 2) (ret := (some .int)) (by decide) rfl (Nat.le_of_ble_eq_true rfl) ?_
  intro p e s m below meth c ls hx hb hr hml hts hown hlk hnm hC hH hl
  have hl : lv_has ls 2 [(0, .ref (k 0)), (1, .int ty)] := hl
  have hj := hI.2.2.2.2.1
  have hn24 := hI.2.2.2.2.2.2.1
  have hT3 := hI.2.2.2.2.2.2.2.1
  have hz32 := hI.2.2.2.2.2.2.2.2
  have nIn : (nI n).toInt = (n : Int) := nI_toInt (by omega)
  have hfr : frC k rho f rho f := frC.rf
  refine lv_iload_n hx hb dX5_object_0 rfl (lv_at hl 1 rfl) ?_
  refine lv_if_lt (tgt := 9) hx hb dX5_object_1 (by decide) (fun c_1 => ?_) (fun c_1 => ?_)
  · skip
    have ic_1 : (ty.toInt : Int) < 0 := ic_lt rfl kI_0 c_1
    refine lv_iconst (v := (-1)) hx hb dX5_object_9 (by decide) ?_
    exact m_iret (v := (-1)) hx hb hr hlk hC hH rho ⟨hfr, Or.inl ⟨by omega, kI_m1, hI⟩⟩ (by omega) (by omega) dX5_object_10
  · skip
    have ic_1 : (ty.toInt : Int) ≥ 0 := ic_nlt rfl kI_0 c_1
    refine lv_iload_n hx hb dX5_object_4 rfl (lv_at hl 1 rfl) ?_
    refine lv_iconst (v := 3) hx hb dX5_object_5 (by decide) ?_
    refine lv_icmp_lt (tgt := 11) hx hb dX5_object_6 (by decide) (fun c_2 => ?_) (fun c_2 => ?_)
    · skip
      have ic_2 : (ty.toInt : Int) < 3 := ic_lt rfl kI_3 c_2
      refine lv_aload_n hx hb dX5_object_11 rfl (lv_at hl 0 rfl) ?_
      obtain ⟨hn_3, cc_3, fc_3, cb_3, wn_3, vs_3, F_3, b3_3, b4_3⟩ : okLS k n (f (k 0)) := hI.ls
      refine m_get (ci := 5) (v := .int (nI n)) (C := RX5) (T := TX5) (N := 14) hx hb hC hH hts in_X5_object_X5 hown F_3 rfl 1 (by decide) (hts (.fieldLink RX5 46 "LazyState" "objectCount" "I") (by decide +kernel)) rfl dX5_object_12 ?_
      refine lv_bipush (v := 24) hx hb dX5_object_15 (by decide) ?_
      refine lv_icmp_lt (tgt := 23) hx hb dX5_object_17 (by decide) (fun c_4 => ?_) (fun c_4 => ?_)
      · skip
        have ic_4 : ((n : Int) : Int) < 24 := ic_lt nIn kI_24 c_4
        have ht_ : ty.toNatClampNeg < 3 := ic_cl (rfl : ty.toInt = _) (by omega) (by omega)
        refine lv_aload_n hx hb dX5_object_23 rfl (lv_at hl 0 rfl) ?_
        refine m_get (ci := 5) (v := .ref (k 1)) (C := RX5) (T := TX5) (N := 14) hx hb hC hH hts in_X5_object_X5 hown F_3 rfl 0 (by decide) (hts (.fieldLink RX5 11 "LazyState" "objects" "[LLazyState$Body;") (by decide +kernel)) rfl dX5_object_24 ?_
        refine lv_aload_n hx hb dX5_object_27 rfl (lv_at hl 0 rfl) ?_
        refine m_get (ci := 5) (v := .int (nI n)) (C := RX5) (T := TX5) (N := 14) hx hb hC hH hts in_X5_object_X5 hown F_3 rfl 1 (by decide) (hts (.fieldLink RX5 46 "LazyState" "objectCount" "I") (by decide +kernel)) rfl dX5_object_28 ?_
        refine m_new (ci := 2) (fs := [.int 0, .null, .null, .int 0, .null]) hx hb hC hH hts in_X5_object_X2 tyX2 tyX2_ok hown (hts (.classLink RX5 9 RX2) (by decide +kernel)) (hts (.instantiable RX2 5) (by decide +kernel)) (hts (.initialized RX2) (by decide +kernel)) rfl (by decide) (by show _ ≤ 3; omega) (by show _ ≤ 29; omega) dX5_object_31 (fun q_5 H hlt_q_5 hge_q_5 hno_q_5 hH => ?_)
        obtain ⟨f_6, ef_6⟩ : ∃ zz_ : mF, zz_ = va_up f q_5 (some (.inr (2, [.int 0, .null, .null, .int 0, .null]))) := ⟨_, rfl⟩
        rw [← ef_6] at hH
        have f0_q_5 := hI.fresh hno_q_5
        have F_7 := upk F_3 ef_6 (Nat.ne_of_lt (hlt_q_5 _ _ F_3))
        have hI : IC G k rho n T z st f_6 := hI.setU f0_q_5.1 f0_q_5.2 ef_6
        have hnf_q_5 : f q_5 = none := frC_none hfr hno_q_5
        have hfr := hfr.fresh hnf_q_5 ef_6
        have F_q_5 : f_6 q_5 = some (.inr (2, [.int 0, .null, .null, .int 0, .null])) := by rw [ef_6]; exact va_up_self _ _ _
        refine lv_dup hx hb dX5_object_34 rfl ?_
        refine lv_iload_n hx hb dX5_object_35 rfl (lv_at hl 1 rfl) ?_
        have hI0_ := hI
        refine m_gov hH (va_runI (As := [.int ty]) (rest := [.ref q_5, .int (nI n), .ref (k 1)]) ⟨hx, hb, hml, hown, hts⟩ (c_X2_init l G k rho n T z st f_6 hI q_5 ty.toNatClampNeg F_q_5 f0_q_5.1 f0_q_5.2 ht_ ty (ic_clN (rfl : ty.toInt = _) (by omega)).symm) (cwI 1 hts gX5_object_X2_init rfl rfl rfl (hts (.initialized RX2) (by decide +kernel)) (hts (.methodLink RX5 49 yX2_init) (by decide +kernel)) (hts (.instanceMethod yX2_init) (by decide +kernel)) rfl (by decide +kernel) ⟨Nat.le_of_ble_eq_true rfl, Nat.le_of_ble_eq_true rfl⟩) (m_preS hC hH) rfl rfl hl.1 rfl (lv_room (Nat.le_of_ble_eq_true rfl)) dX5_object_36 ⟨by show _ ≤ 3; omega, by show _ ≤ 29; omega⟩) (fun rho_10 f_9 H locs hw hH => ?_)
        obtain ⟨ca_, ia_, hu_, hI, hc_, hi_, hex, Fn_⟩ := hw
        have hu_ : rho_10 = va_up (va_up (va_up rho ca_ (2, ty.toNatClampNeg)) ia_ (3, 0)) q_5 (1, ty.toNatClampNeg) := hu_
        have hI : IC G k rho_10 n T z st f_9 := hI
        have hex : ∀ (a : Nat) (e : va_E), a ≠ q_5 → f_6 a = some e → f_9 a = some e := hex
        have hfr : frC k rho f rho_10 f_9 := hu_ ▸ hfr.init hnf_q_5 hc_ hi_ hex
        have rq_ : rho_10 q_5 = (1, ty.toNatClampNeg) := by rw [hu_]; exact va_up_self _ _ _
        obtain ⟨g_11, hg_11, hp_11⟩ : okQ G 3 24 (fun g => ∀ o, o < n → ∃ b, g o = some b ∧ rho_10 b = (1, T o)) (f_9 (k 1)) := hI.objs
        obtain ⟨ca_12, ia_12, si_12, bf_12, F_12, hca_12, hia_12, hbf_12⟩ : okB rho_10 ty.toNatClampNeg q_5 (f_9 q_5) := hI.pool rq_
        have tI_12 : (nI ty.toNatClampNeg).toInt = (ty.toNatClampNeg : Int) := nI_toInt (by have := ht_; omega)
        refine m_aast (ci := 2) hx hb hC hH 3 rfl hg_11 F_12 rfl (vp_in_iff.mpr (by rw [nIn]; exact ⟨by omega, by omega⟩)) dX5_object_39 (fun H locs hH => ?_)
        obtain ⟨f_13, ef_13⟩ : ∃ zz_ : mF, zz_ = va_up f_9 (k 1) (some (.inl (gk G 3, 24, .inr (.inr (.inr (.inr (va_up g_11 ((nI n).toNatClampNeg) (some q_5)))))))) := ⟨_, rfl⟩
        rw [← ef_13] at hH
        have F_14 := upk F_12 ef_13 (hI.nk (j := 1) (by omega) (by rw [rq_]; simp))
        have hI : IC G k rho_10 n T z st f_13 := hI.set (j := 1) (by decide) ef_13 (fun i_ hi_ => by omega) (show okQ G 3 24 _ _ from ⟨_, rfl, objs_far hp_11 (by rw [nI_clamp (by omega)]; omega)⟩)
        have hg1_ : f_13 (k 1) = some (.inl (gk G 3, 24, .inr (.inr (.inr (.inr (va_up g_11 ((nI n).toNatClampNeg) (some q_5))))))) := by rw [ef_13]; exact va_up_self _ _ _
        have hgn_ : va_up g_11 ((nI n).toNatClampNeg) (some q_5) n = some q_5 := by rw [nI_clamp (by omega)]; exact va_up_self _ _ _
        have hfr := hfr.upK (j := 1) (by omega) ef_13
        refine lv_aload_n hx hb dX5_object_40 rfl (lv_at hl 0 rfl) ?_
        refine lv_dup hx hb dX5_object_41 rfl ?_
        obtain ⟨hn_15, cc_15, fc_15, cb_15, wn_15, vs_15, F_15, b3_15, b4_15⟩ : okLS k n (f_13 (k 0)) := hI.ls
        refine m_get (ci := 5) (v := .int (nI n)) (C := RX5) (T := TX5) (N := 14) hx hb hC hH hts in_X5_object_X5 hown F_15 rfl 1 (by decide) (hts (.fieldLink RX5 46 "LazyState" "objectCount" "I") (by decide +kernel)) rfl dX5_object_42 ?_
        refine lv_iconst (v := 1) hx hb dX5_object_45 (by decide) ?_
        refine lv_iadd hx hb dX5_object_46 ?_
        refine lv_topi (fun x_16 ex_16 => ?_)
        have ix_16 : x_16.toInt = (n : Int) + 1 := ic_add ex_16 nIn kI_1 (by omega) (by omega)
        refine m_put (ci := 5) (v := .int x_16) (C := RX5) (T := TX5) (N := 14) hx hb hC hH hts in_X5_object_X5 tyX5 tyX5_ok nmX5 hown F_15 rfl 1 (by decide) (hts (.fieldLink RX5 46 "LazyState" "objectCount" "I") (by decide +kernel)) rfl rfl rfl (Nat.le_of_ble_eq_true rfl) dX5_object_47 (fun H locs hH => ?_)
        have hH : mH G s (va_up f_13 (k 0) (some (.inr (5, [.ref (k 1), .int x_16, .int hn_15, .ref (k 2), .ref (k 5), .ref (k 13), .ref (k 21), .int cc_15, .int fc_15, .int cb_15, .ref (k 3), .int wn_15, .ref (k 4), .int vs_15])))) H locs := hH
        obtain ⟨f_17, ef_17⟩ : ∃ zz_ : mF, zz_ = va_up f_13 (k 0) (some (.inr (5, [.ref (k 1), .int x_16, .int hn_15, .ref (k 2), .ref (k 5), .ref (k 13), .ref (k 21), .int cc_15, .int fc_15, .int cb_15, .ref (k 3), .int wn_15, .ref (k 4), .int vs_15]))) := ⟨_, rfl⟩
        rw [← ef_17] at hH
        have F_18 := upk F_14 ef_17 (hI.nk (j := 0) (by omega) (by rw [rq_]; simp))
        have F_19 : f_17 (k 0) = some (.inr (5, [.ref (k 1), .int x_16, .int hn_15, .ref (k 2), .ref (k 5), .ref (k 13), .ref (k 21), .int cc_15, .int fc_15, .int cb_15, .ref (k 3), .int wn_15, .ref (k 4), .int vs_15])) := by rw [ef_17]; exact va_up_self _ _ _
        have hI : IC G k rho_10 (n + 1) (fun o => if o = n then ty.toNatClampNeg else T o) z st f_17 := hI.grow (by omega) hg1_ hgn_ rq_ ht_ ef_17 (show okLS k (n + 1) _ from ⟨_, _, _, _, _, _, by rw [ic_inj (x := x_16) (n := n + 1) (by omega) (by omega)], by omega, by omega⟩)
        have hfr := hfr.upK (j := 0) (by omega) ef_17
        refine lv_aload_n hx hb dX5_object_50 rfl (lv_at hl 0 rfl) ?_
        refine m_get (ci := 5) (v := .int x_16) (C := RX5) (T := TX5) (N := 14) hx hb hC hH hts in_X5_object_X5 hown F_19 rfl 1 (by decide) (hts (.fieldLink RX5 46 "LazyState" "objectCount" "I") (by decide +kernel)) rfl dX5_object_51 ?_
        refine lv_iconst (v := 1) hx hb dX5_object_54 (by decide) ?_
        refine lv_isub hx hb dX5_object_55 ?_
        refine lv_topi (fun x_20 ex_20 => ?_)
        have ix_20 : x_20.toInt = x_16.toInt - 1 := ic_sub ex_20 rfl kI_1 (by omega) (by omega)
        exact m_iret (v := x_20) hx hb hr hlk hC hH rho_10 ⟨hfr, Or.inr (Or.inr ⟨by omega, by omega, by omega, by omega, hI⟩)⟩ (by omega) (by omega) dX5_object_56
      · skip
        have ic_4 : ((n : Int) : Int) ≥ 24 := ic_nlt nIn kI_24 c_4
        refine lv_bipush (v := (-2)) hx hb dX5_object_20 (by decide) ?_
        exact m_iret (v := (-2)) hx hb hr hlk hC hH rho ⟨hfr, Or.inr (Or.inl ⟨by omega, by omega, by omega, kI_m2, hI⟩)⟩ (by omega) (by omega) dX5_object_22
    · skip
      have ic_2 : (ty.toInt : Int) ≥ 3 := ic_nlt rfl kI_3 c_2
      refine lv_iconst (v := (-1)) hx hb dX5_object_9 (by decide) ?_
      exact m_iret (v := (-1)) hx hb hr hlk hC hH rho ⟨hfr, Or.inl ⟨by omega, kI_m1, hI⟩⟩ (by omega) (by omega) dX5_object_10
