set_option maxHeartbeats 4000000 in
set_option maxRecDepth 100000 in
theorem c_X3_load (l : Launch) (G : mG) (k : Nat → Nat) (rho : tR) (n : Nat) (T z : Nat → Nat) (st : Nat → Bool) (f : mF) (hI : IC G k rho n T z st f) (i : Nat) (hi : i < 3) (hst : st i = true ∧ 0 < n) (o : Int32) (ho : 0 ≤ o.toInt ∧ o.toInt < n) : Met l yX3_load wsX3_load ({ frames := 2, cells := 3 * nd k i f o.toNatClampNeg, slots := 29 * nd k i f o.toNatClampNeg, locals := 81 }) (va_Pc [.ref (k (5 + 8 * i)), .int o] (mW G f)) (va_Qv (fun (u : mS) => IC G k u.1 n T z st u.2 ∧ frC k rho f u.1 u.2 ∧ ldP k i o.toNatClampNeg f u.2) (fun (u : mS) t => mW G u.2 t) (mA G)) (3 * nd k i f o.toNatClampNeg) (29 * nd k i f o.toNatClampNeg) (mA G) := by
  refine mMet [.ref (k (5 + 8 * i)), .int o] (cc := cX3_load) (maxL := 2) (ret := none) (by decide) rfl (Nat.le_of_ble_eq_true rfl) ?_
  intro p e s m below meth c ls hx hb hr hml hts hown hlk hnm hC hH hl
  have hl : lv_has ls 2 [(0, .ref (k (5 + 8 * i))), (1, .int o)] := hl
  have hj := hI.2.2.2.2.1
  have hn24 := hI.2.2.2.2.2.2.1
  have hT3 := hI.2.2.2.2.2.2.2.1
  have hz32 := hI.2.2.2.2.2.2.2.2
  have nIn : (nI n).toInt = (n : Int) := nI_toInt (by omega)
  have hfr : frC k rho f rho f := frC.rf
  have hk5 : f (k (5 + 8 * i + 5)) = f (k (5 + 8 * i + 5)) := rfl
  have hk6 : f (k (5 + 8 * i + 6)) = f (k (5 + 8 * i + 6)) := rfl
  have hk7 : f (k (5 + 8 * i + 7)) = f (k (5 + 8 * i + 7)) := rfl
  have hn0_ := hst.2
  refine lv_aload_n hx hb dX3_load_0 rfl (lv_at hl 0 rfl) ?_
  obtain ⟨lb_1, dn_1, gf_1, th_1, ta_1, sr_1, nx_1, F_1, s1_1, s2_1⟩ : okRun k st i (f (k (5 + 8 * i))) := hI.run (i := i) (c := 0) hi (by decide)
  have s3_1 := s2_1 hst.1
  subst s3_1
  refine m_get (ci := 3) (v := .int lb_1) (C := RX3) (T := TX3) (N := 11) hx hb hC hH hts in_X3_load_X3 hown F_1 rfl 1 (by decide) (hts (.fieldLink RX3 42 "LazyState$Run" "loadedBits" "I") (by decide +kernel)) rfl dX3_load_1 ?_
  refine lv_iload_n hx hb dX3_load_4 rfl (lv_at hl 1 rfl) ?_
  refine m_goi hH (va_runSN (As := [.int lb_1, .int o]) (rest := []) ⟨hx, hb, hml, hown, hts⟩ (c_X5_bitOf l G f lb_1 o) ⟨va_cnB 2 hts gX3_load_X5_bitOf_n97 rfl rfl rfl hC.2.1.2.2.2.2.1 (hts (.initialized RX5) (by decide +kernel)) (by decide +kernel) ⟨Nat.le_of_ble_eq_true rfl, Nat.le_of_ble_eq_true rfl⟩, (hts (.static yX5_bitOf) (by decide +kernel)), trivial⟩ (m_preS hC hH) rfl rfl hl.1 rfl (lv_room (Nat.le_of_ble_eq_true rfl)) dX3_load_5 ⟨by show _ ≤ 3 * nd k i f o.toNatClampNeg; omega, by show _ ≤ 29 * nd k i f o.toNatClampNeg; omega⟩) (fun r_2 rho_4 f_3 H locs hw hH => ?_)
  obtain ⟨hu, hr_2⟩ := hw
  have hu : f_3 = f := hu
  rw [hu] at hH
  have br_2 : r_2.toInt = 0 ∨ r_2.toInt = 1 := by rw [hr_2]; exact ic_and1 _
  refine lv_iconst (v := 1) hx hb dX3_load_8 (by decide) ?_
  refine lv_icmp_ne (tgt := 13) hx hb dX3_load_9 (by decide) (fun c_5 => ?_) (fun c_5 => ?_)
  · skip
    have ic_5 : (r_2.toInt : Int) ≠ 1 := ic_ne rfl kI_1 c_5
    refine lv_aload_n hx hb dX3_load_13 rfl (lv_at hl 0 rfl) ?_
    refine m_get (ci := 3) (v := .ref (k (5 + 8 * i + 5))) (C := RX3) (T := TX3) (N := 11) hx hb hC hH hts in_X3_load_X3 hown F_1 rfl 7 (by decide) (hts (.fieldLink RX3 24 "LazyState$Run" "copies" "[LLazyState$Body;") (by decide +kernel)) rfl dX3_load_14 ?_
    refine lv_iload_n hx hb dX3_load_17 rfl (lv_at hl 1 rfl) ?_
    obtain ⟨g_6, hg_6, hp_6⟩ : okQ G 3 24 (pCp rho n T) (f (k (5 + 8 * i + 5))) := hI.run (i := i) (c := 5) hi (by decide)
    refine m_aald hx hb hC hH 3 rfl hg_6 (vp_in_iff.mpr ⟨by omega, by omega⟩) dX3_load_18 ?_
    have cq_ := cpF_eq hg_6
    cases hq_7 : g_6 (o.toNatClampNeg) with
    | none =>
      refine lv_ifnonnullN hx hb dX3_load_19 ?_
      have nc0_ : cpF k i f o.toNatClampNeg = none := by rw [cq_]; exact hq_7
      have ndv0_ := nd_1 nc0_
      refine lv_aload_n hx hb dX3_load_22 rfl (lv_at hl 0 rfl) ?_
      refine m_get (ci := 3) (v := .ref (k (5 + 8 * i + 5))) (C := RX3) (T := TX3) (N := 11) hx hb hC hH hts in_X3_load_X3 hown F_1 rfl 7 (by decide) (hts (.fieldLink RX3 24 "LazyState$Run" "copies" "[LLazyState$Body;") (by decide +kernel)) rfl dX3_load_23 ?_
      refine lv_iload_n hx hb dX3_load_26 rfl (lv_at hl 1 rfl) ?_
      refine m_new (ci := 2) (fs := [.int 0, .null, .null, .int 0, .null]) hx hb hC hH hts in_X3_load_X2 tyX2 tyX2_ok hown (hts (.classLink RX3 22 RX2) (by decide +kernel)) (hts (.instantiable RX2 5) (by decide +kernel)) (hts (.initialized RX2) (by decide +kernel)) rfl (by decide) (by show _ ≤ 3 * nd k i f o.toNatClampNeg; omega) (by show _ ≤ 29 * nd k i f o.toNatClampNeg; omega) dX3_load_27 (fun q_8 H hlt_q_8 hge_q_8 hno_q_8 hH => ?_)
      obtain ⟨f_9, ef_9⟩ : ∃ zz_ : mF, zz_ = va_up f q_8 (some (.inr (2, [.int 0, .null, .null, .int 0, .null]))) := ⟨_, rfl⟩
      rw [← ef_9] at hH
      have f0_q_8 := hI.fresh hno_q_8
      have F_10 := upk F_1 ef_9 (Nat.ne_of_lt (hlt_q_8 _ _ F_1))
      have hg_11 := upk hg_6 ef_9 (Nat.ne_of_lt (hlt_q_8 _ _ hg_6))
      have hI : IC G k rho n T z st f_9 := hI.setU f0_q_8.1 f0_q_8.2 ef_9
      have hnf_q_8 : f q_8 = none := frC_none hfr hno_q_8
      have hfr := hfr.fresh hnf_q_8 ef_9
      have hk5 := (upn ef_9 (Ne.symm (f0_q_8.2 (5 + 8 * i + 5) (by omega)))).trans hk5
      have hk6 := (upn ef_9 (Ne.symm (f0_q_8.2 (5 + 8 * i + 6) (by omega)))).trans hk6
      have hk7 := (upn ef_9 (Ne.symm (f0_q_8.2 (5 + 8 * i + 7) (by omega)))).trans hk7
      have F_q_8 : f_9 q_8 = some (.inr (2, [.int 0, .null, .null, .int 0, .null])) := by rw [ef_9]; exact va_up_self _ _ _
      refine lv_dup hx hb dX3_load_30 rfl ?_
      refine lv_aload_n hx hb dX3_load_31 rfl (lv_at hl 0 rfl) ?_
      refine m_get (ci := 3) (v := .ref (k 1)) (C := RX3) (T := TX3) (N := 11) hx hb hC hH hts in_X3_load_X3 hown F_10 rfl 6 (by decide) (hts (.fieldLink RX3 36 "LazyState$Run" "state" "[LLazyState$Body;") (by decide +kernel)) rfl dX3_load_32 ?_
      refine lv_iload_n hx hb dX3_load_35 rfl (lv_at hl 1 rfl) ?_
      obtain ⟨g_12, hg_12, hp_12⟩ : okQ G 3 24 (fun g => ∀ o, o < n → ∃ b, g o = some b ∧ rho b = (1, T o)) (f_9 (k 1)) := hI.objs
      refine m_aald hx hb hC hH 3 rfl hg_12 (vp_in_iff.mpr ⟨by omega, by omega⟩) dX3_load_36 ?_
      obtain ⟨o_13, h1o_13, h2o_13⟩ := hp_12 (o.toNatClampNeg) (ic_cl rfl (by omega) (by omega))
      rw [h1o_13]
      obtain ⟨ca_14, ia_14, si_14, bf_14, F_14, hca_14, hia_14, hbf_14⟩ : okB rho (T (o.toNatClampNeg)) o_13 (f_9 o_13) := hI.pool h2o_13
      have tI_14 : (nI (T (o.toNatClampNeg))).toInt = (T (o.toNatClampNeg) : Int) := nI_toInt (by have := hT3 (o.toNatClampNeg); omega)
      refine m_get (ci := 2) (v := .int (nI (T (o.toNatClampNeg)))) (C := RX2) (T := TX2) (N := 5) hx hb hC hH hts in_X3_load_X2 hown F_14 rfl 0 (by decide) (hts (.fieldLink RX3 101 "LazyState$Body" "type" "I") (by decide +kernel)) rfl dX3_load_37 ?_
      have hI0_ := hI
      refine m_gov hH (va_runI (As := [.int (nI (T (o.toNatClampNeg)))]) (rest := [.ref q_8, .int o, .ref (k (5 + 8 * i + 5))]) ⟨hx, hb, hml, hown, hts⟩ (c_X2_init l G k rho n T z st f_9 hI q_8 (T (o.toNatClampNeg)) F_q_8 f0_q_8.1 f0_q_8.2 (hT3 _) (nI (T (o.toNatClampNeg))) tI_14) (cwI 1 hts gX3_load_X2_init rfl rfl rfl (hts (.initialized RX2) (by decide +kernel)) (hts (.methodLink RX3 104 yX2_init) (by decide +kernel)) (hts (.instanceMethod yX2_init) (by decide +kernel)) rfl (by decide +kernel) ⟨Nat.le_of_ble_eq_true rfl, Nat.le_of_ble_eq_true rfl⟩) (m_preS hC hH) rfl rfl hl.1 rfl (lv_room (Nat.le_of_ble_eq_true rfl)) dX3_load_40 ⟨by show _ ≤ 3 * nd k i f o.toNatClampNeg; omega, by show _ ≤ 29 * nd k i f o.toNatClampNeg; omega⟩) (fun rho_17 f_16 H locs hw hH => ?_)
      obtain ⟨ca_, ia_, hu_, hI, hc_, hi_, hex, Fn_⟩ := hw
      have hu_ : rho_17 = va_up (va_up (va_up rho ca_ (2, (T (o.toNatClampNeg)))) ia_ (3, 0)) q_8 (1, (T (o.toNatClampNeg))) := hu_
      have hI : IC G k rho_17 n T z st f_16 := hI
      have hex : ∀ (a : Nat) (e : va_E), a ≠ q_8 → f_9 a = some e → f_16 a = some e := hex
      have hfr : frC k rho f rho_17 f_16 := hu_ ▸ hfr.init hnf_q_8 hc_ hi_ hex
      have rq_ : rho_17 q_8 = (1, (T (o.toNatClampNeg))) := by rw [hu_]; exact va_up_self _ _ _
      have H5_ := hex _ _ (Ne.symm (f0_q_8.2 (5 + 8 * i + 5) (by omega))) hg_11
      have hk5 := (H5_.trans hg_11.symm).trans hk5
      obtain ⟨y6_, Y6_, -⟩ : okI G 0 4 (pHa n) (f_9 (k (5 + 8 * i + 6))) := hI0_.run (c := 6) hi (by decide)
      have hk6 := (ex_eq hex (Ne.symm (f0_q_8.2 (5 + 8 * i + 6) (by omega))) Y6_).trans hk6
      obtain ⟨y7_, Y7_, -⟩ : okJ G 4 (fun _ => True) (f_9 (k (5 + 8 * i + 7))) := hI0_.run (c := 7) hi (by decide)
      have hk7 := (ex_eq hex (Ne.symm (f0_q_8.2 (5 + 8 * i + 7) (by omega))) Y7_).trans hk7
      have Fq_ : f_16 q_8 = some _ := Fn_
      refine m_aast (ci := 2) hx hb hC hH 3 rfl H5_ Fq_ rfl (vp_in_iff.mpr ⟨by omega, by omega⟩) dX3_load_43 (fun H locs hH => ?_)
      obtain ⟨f_18, ef_18⟩ : ∃ zz_ : mF, zz_ = va_up f_16 (k (5 + 8 * i + 5)) (some (.inl (gk G 3, 24, .inr (.inr (.inr (.inr (va_up g_6 o.toNatClampNeg (some q_8)))))))) := ⟨_, rfl⟩
      rw [← ef_18] at hH
      have F_19 := upk Fq_ ef_18 (hI.nk (j := (5 + 8 * i + 5)) (by omega) (by rw [rq_]; simp))
      have hI : IC G k rho_17 n T z st f_18 := hI.setCp hi H5_ ef_18 (o := o.toNatClampNeg) (b := q_8) (by have := ic_clN (rfl : o.toInt = _) (by omega); omega) rq_
      have cg_ : f_18 (k (5 + 8 * i + 5)) = some (.inl (gk G 3, 24, .inr (.inr (.inr (.inr (va_up g_6 o.toNatClampNeg (some q_8))))))) := by rw [ef_18]; exact va_up_self _ _ _
      have cf_ := cpF_eq cg_
      have nc_ : cpF k i f o.toNatClampNeg = none := by rw [cq_]; exact hq_7
      have ndv_ := nd_1 nc_
      have hk6 := (upn ef_18 (neC hj (by omega) (by omega) (by omega))).trans hk6
      have hk7 := (upn ef_18 (neC hj (by omega) (by omega) (by omega))).trans hk7
      have hfr := hfr.upK (j := (5 + 8 * i + 5)) (by omega) ef_18
      refine lv_aload_n hx hb dX3_load_44 rfl (lv_at hl 0 rfl) ?_
      obtain ⟨lb_20, dn_20, gf_20, th_20, ta_20, sr_20, nx_20, F_20, s1_20, s2_20⟩ : okRun k st i (f_18 (k (5 + 8 * i))) := hI.run (i := i) (c := 0) hi (by decide)
      have s3_20 := s2_20 hst.1
      subst s3_20
      refine m_get (ci := 3) (v := .ref (k (5 + 8 * i + 5))) (C := RX3) (T := TX3) (N := 11) hx hb hC hH hts in_X3_load_X3 hown F_20 rfl 7 (by decide) (hts (.fieldLink RX3 24 "LazyState$Run" "copies" "[LLazyState$Body;") (by decide +kernel)) rfl dX3_load_45 ?_
      refine lv_iload_n hx hb dX3_load_48 rfl (lv_at hl 1 rfl) ?_
      refine m_aald hx hb hC hH 3 rfl cg_ (vp_in_iff.mpr ⟨by omega, by omega⟩) dX3_load_49 ?_
      rw [va_up_self]
      refine lv_aload_n hx hb dX3_load_50 rfl (lv_at hl 0 rfl) ?_
      refine m_get (ci := 3) (v := .ref (k 1)) (C := RX3) (T := TX3) (N := 11) hx hb hC hH hts in_X3_load_X3 hown F_20 rfl 6 (by decide) (hts (.fieldLink RX3 36 "LazyState$Run" "state" "[LLazyState$Body;") (by decide +kernel)) rfl dX3_load_51 ?_
      refine lv_iload_n hx hb dX3_load_54 rfl (lv_at hl 1 rfl) ?_
      obtain ⟨g_21, hg_21, hp_21⟩ : okQ G 3 24 (fun g => ∀ o, o < n → ∃ b, g o = some b ∧ rho_17 b = (1, T o)) (f_18 (k 1)) := hI.objs
      refine m_aald hx hb hC hH 3 rfl hg_21 (vp_in_iff.mpr ⟨by omega, by omega⟩) dX3_load_55 ?_
      obtain ⟨o_22, h1o_22, h2o_22⟩ := hp_21 (o.toNatClampNeg) (ic_cl rfl (by omega) (by omega))
      rw [h1o_22]
      obtain ⟨ca_26, ia_26, si_26, bf_26, F_26, hca_26, hia_26, hbf_26⟩ : okB rho_17 (T o.toNatClampNeg) q_8 (f_18 q_8) := hI.pool rq_
      have tI_26 : (nI (T o.toNatClampNeg)).toInt = (T o.toNatClampNeg : Int) := nI_toInt (by have := hT3 o.toNatClampNeg; omega)
      refine m_gov hH (va_runV (As := [.ref o_22]) (rest := []) ⟨hx, hb, hml, hown, hts⟩ (c_X2_copyFrom l G k rho_17 n T z st f_18 hI q_8 (T o.toNatClampNeg) rq_ (hT3 _) o_22 h2o_22) (cwV 1 hts gX3_load_X2_copyFrom rfl rfl rfl (by decide +kernel) ⟨Nat.le_of_ble_eq_true rfl, Nat.le_of_ble_eq_true rfl⟩) (m_preV (ci := 2) hC hH F_26 rfl) rfl rfl hl.1 rfl (lv_room (Nat.le_of_ble_eq_true rfl)) dX3_load_56 ⟨by show _ ≤ 3 * nd k i f o.toNatClampNeg; omega, by show _ ≤ 29 * nd k i f o.toNatClampNeg; omega⟩) (fun rho_25 f_24 H locs hw hH => ?_)
      obtain ⟨hu, hI, hfr1, hr_23⟩ := hw
      have hI : IC G k rho_17 n T z st f_24 := hI
      have hfr1 : frC k rho_17 f_18 rho_17 f_24 := hfr1
      have hfr := hfr.trans hfr1
      try dsimp only at hr_23
      have hk_r_23 : kpK k f_18 f_24 := hr_23
      have hk6 := (hk_r_23 (5 + 8 * i + 6) (by omega)).trans hk6
      have hk7 := (hk_r_23 (5 + 8 * i + 7) (by omega)).trans hk7
      obtain ⟨g_27, hg_27, hp_27⟩ : okQ G 3 24 (pCp rho_17 n T) (f_24 (k (5 + 8 * i + 5))) := hI.run (i := i) (c := 5) hi (by decide)
      have cz_ : g_27 = cpF k i f_24 := (cpF_eq hg_27).symm
      have cy_ : g_27 = (va_up g_6 o.toNatClampNeg (some q_8)) := cz_.trans ((cpF_c (hk_r_23 (5 + 8 * i + 5) (by omega))).trans cf_)
      have nz_ : g_27 o.toNatClampNeg ≠ none := by rw [cy_]; rw [va_up_self]; simp
      refine lv_aload_n hx hb dX3_load_59 rfl (lv_at hl 0 rfl) ?_
      refine lv_dup hx hb dX3_load_60 rfl ?_
      obtain ⟨lb_28, dn_28, gf_28, th_28, ta_28, sr_28, nx_28, F_28, s1_28, s2_28⟩ : okRun k st i (f_24 (k (5 + 8 * i))) := hI.run (i := i) (c := 0) hi (by decide)
      have s3_28 := s2_28 hst.1
      subst s3_28
      refine m_get (ci := 3) (v := .int lb_28) (C := RX3) (T := TX3) (N := 11) hx hb hC hH hts in_X3_load_X3 hown F_28 rfl 1 (by decide) (hts (.fieldLink RX3 42 "LazyState$Run" "loadedBits" "I") (by decide +kernel)) rfl dX3_load_61 ?_
      refine lv_iconst (v := 1) hx hb dX3_load_64 (by decide) ?_
      refine lv_iload_n hx hb dX3_load_65 rfl (lv_at hl 1 rfl) ?_
      refine lv_ishl hx hb dX3_load_66 ?_
      refine lv_topi (fun x_29 ex_29 => ?_)
      refine lv_ior hx hb dX3_load_67 ?_
      refine lv_topi (fun x_30 ex_30 => ?_)
      refine m_put (ci := 3) (v := .int x_30) (C := RX3) (T := TX3) (N := 11) hx hb hC hH hts in_X3_load_X3 tyX3 tyX3_ok nmX3 hown F_28 rfl 1 (by decide) (hts (.fieldLink RX3 42 "LazyState$Run" "loadedBits" "I") (by decide +kernel)) rfl rfl rfl (Nat.le_of_ble_eq_true rfl) dX3_load_68 (fun H locs hH => ?_)
      have hH : mH G s (va_up f_24 (k (5 + 8 * i)) (some (.inr (3, [.ref (k (5 + 8 * i + 1)), .int x_30, .int dn_28, .long gf_28, .int th_28, .int ta_28, .ref (k 1), .ref (k (5 + 8 * i + 5)), .ref (k (5 + 8 * i + 6)), .ref (k (5 + 8 * i + 7)), .int nx_28])))) H locs := hH
      obtain ⟨f_31, ef_31⟩ : ∃ zz_ : mF, zz_ = va_up f_24 (k (5 + 8 * i)) (some (.inr (3, [.ref (k (5 + 8 * i + 1)), .int x_30, .int dn_28, .long gf_28, .int th_28, .int ta_28, .ref (k 1), .ref (k (5 + 8 * i + 5)), .ref (k (5 + 8 * i + 6)), .ref (k (5 + 8 * i + 7)), .int nx_28]))) := ⟨_, rfl⟩
      rw [← ef_31] at hH
      have hg_32 := upk hg_27 ef_31 (neC hj (i := (5 + 8 * i + 5)) (j := (5 + 8 * i + 0)) (by omega) (by omega) (by omega))
      have F_33 : f_31 (k (5 + 8 * i)) = some (.inr (3, [.ref (k (5 + 8 * i + 1)), .int x_30, .int dn_28, .long gf_28, .int th_28, .int ta_28, .ref (k 1), .ref (k (5 + 8 * i + 5)), .ref (k (5 + 8 * i + 6)), .ref (k (5 + 8 * i + 7)), .int nx_28])) := by rw [ef_31]; exact va_up_self _ _ _
      have H5n_ := upk hg_27 ef_31 (neC hj (by omega) (by omega) (by omega))
      have hI : IC G k rho_17 n T z st f_31 := hI.setRunX hi (fun _ _ => rfl) ef_31 ⟨_, _, _, _, _, some (k 1), _, rfl, Or.inr rfl, fun _ => rfl⟩ (xLd_mk F_33 rfl H5n_ (fun o_ ho_ hb_ => (btC_or (o := o) ⟨by omega, by omega⟩ ho_ (by rw [← ex_29, ← ex_30]; exact hb_)).elim (fun z_ => by rw [z_]; exact nz_) (fun z_ => hI.2.2.1 i hi _ _ _ F_28 rfl hg_27 o_ ho_ z_)))
      have hk6 := (upn ef_31 (neC hj (by omega) (by omega) (by omega))).trans hk6
      have hk7 := (upn ef_31 (neC hj (by omega) (by omega) (by omega))).trans hk7
      have cF_ : cpF k i f_31 = g_27 := cpF_eq H5n_
      have hfr := hfr.upK (j := (5 + 8 * i + 0)) (by omega) ef_31
      exact m_vret hx hb hr hlk hC hH rho_17 ⟨hI, hfr, by rw [cF_]; exact nz_, by rw [cF_, cy_, ndv_, cq_]; exact nul_up hq_7 24 (by have := ic_clN (rfl : o.toInt = _) (by omega); omega), fun q_ hq_ => by rw [cF_, cy_, va_up_ne _ _ hq_, ← cq_], hk6, hk7⟩ (by omega) (by omega) dX3_load_71
    | some q_7 =>
      refine lv_ifnonnull (tgt := 44) hx hb dX3_load_19 (by decide) ?_
      obtain ⟨_, cb_, c1_, c2_⟩ := (hp_6 o.toNatClampNeg (ic_cl rfl (by omega) (by omega))).resolve_left (by rw [hq_7]; simp)
      have ez_ : cb_ = q_7 := Option.some.inj (c1_.symm.trans hq_7)
      subst ez_
      have nc_ : cpF k i f o.toNatClampNeg ≠ none := by rw [cq_, c1_]; simp
      have ndv_ := nd_0 nc_
      have cf_ : cpF k i f = cpF k i f := rfl
      refine lv_aload_n hx hb dX3_load_44 rfl (lv_at hl 0 rfl) ?_
      refine m_get (ci := 3) (v := .ref (k (5 + 8 * i + 5))) (C := RX3) (T := TX3) (N := 11) hx hb hC hH hts in_X3_load_X3 hown F_1 rfl 7 (by decide) (hts (.fieldLink RX3 24 "LazyState$Run" "copies" "[LLazyState$Body;") (by decide +kernel)) rfl dX3_load_45 ?_
      refine lv_iload_n hx hb dX3_load_48 rfl (lv_at hl 1 rfl) ?_
      refine m_aald hx hb hC hH 3 rfl hg_6 (vp_in_iff.mpr ⟨by omega, by omega⟩) dX3_load_49 ?_
      rw [c1_]
      refine lv_aload_n hx hb dX3_load_50 rfl (lv_at hl 0 rfl) ?_
      refine m_get (ci := 3) (v := .ref (k 1)) (C := RX3) (T := TX3) (N := 11) hx hb hC hH hts in_X3_load_X3 hown F_1 rfl 6 (by decide) (hts (.fieldLink RX3 36 "LazyState$Run" "state" "[LLazyState$Body;") (by decide +kernel)) rfl dX3_load_51 ?_
      refine lv_iload_n hx hb dX3_load_54 rfl (lv_at hl 1 rfl) ?_
      obtain ⟨g_34, hg_34, hp_34⟩ : okQ G 3 24 (fun g => ∀ o, o < n → ∃ b, g o = some b ∧ rho b = (1, T o)) (f (k 1)) := hI.objs
      refine m_aald hx hb hC hH 3 rfl hg_34 (vp_in_iff.mpr ⟨by omega, by omega⟩) dX3_load_55 ?_
      obtain ⟨o_35, h1o_35, h2o_35⟩ := hp_34 (o.toNatClampNeg) (ic_cl rfl (by omega) (by omega))
      rw [h1o_35]
      obtain ⟨ca_39, ia_39, si_39, bf_39, F_39, hca_39, hia_39, hbf_39⟩ : okB rho (T o.toNatClampNeg) cb_ (f cb_) := hI.pool c2_
      have tI_39 : (nI (T o.toNatClampNeg)).toInt = (T o.toNatClampNeg : Int) := nI_toInt (by have := hT3 o.toNatClampNeg; omega)
      refine m_gov hH (va_runV (As := [.ref o_35]) (rest := []) ⟨hx, hb, hml, hown, hts⟩ (c_X2_copyFrom l G k rho n T z st f hI cb_ (T o.toNatClampNeg) c2_ (hT3 _) o_35 h2o_35) (cwV 1 hts gX3_load_X2_copyFrom rfl rfl rfl (by decide +kernel) ⟨Nat.le_of_ble_eq_true rfl, Nat.le_of_ble_eq_true rfl⟩) (m_preV (ci := 2) hC hH F_39 rfl) rfl rfl hl.1 rfl (lv_room (Nat.le_of_ble_eq_true rfl)) dX3_load_56 ⟨by show _ ≤ 3 * nd k i f o.toNatClampNeg; omega, by show _ ≤ 29 * nd k i f o.toNatClampNeg; omega⟩) (fun rho_38 f_37 H locs hw hH => ?_)
      obtain ⟨hu, hI, hfr1, hr_36⟩ := hw
      have hI : IC G k rho n T z st f_37 := hI
      have hfr1 : frC k rho f rho f_37 := hfr1
      have hfr := hfr.trans hfr1
      try dsimp only at hr_36
      have hk_r_36 : kpK k f f_37 := hr_36
      have hk6 := (hk_r_36 (5 + 8 * i + 6) (by omega)).trans hk6
      have hk7 := (hk_r_36 (5 + 8 * i + 7) (by omega)).trans hk7
      obtain ⟨g_40, hg_40, hp_40⟩ : okQ G 3 24 (pCp rho n T) (f_37 (k (5 + 8 * i + 5))) := hI.run (i := i) (c := 5) hi (by decide)
      have cz_ : g_40 = cpF k i f_37 := (cpF_eq hg_40).symm
      have cy_ : g_40 = g_6 := cz_.trans ((cpF_c (hk_r_36 (5 + 8 * i + 5) (by omega))).trans (cf_.trans cq_))
      have nz_ : g_40 o.toNatClampNeg ≠ none := by rw [cy_]; rw [c1_]; simp
      refine lv_aload_n hx hb dX3_load_59 rfl (lv_at hl 0 rfl) ?_
      refine lv_dup hx hb dX3_load_60 rfl ?_
      obtain ⟨lb_41, dn_41, gf_41, th_41, ta_41, sr_41, nx_41, F_41, s1_41, s2_41⟩ : okRun k st i (f_37 (k (5 + 8 * i))) := hI.run (i := i) (c := 0) hi (by decide)
      have s3_41 := s2_41 hst.1
      subst s3_41
      refine m_get (ci := 3) (v := .int lb_41) (C := RX3) (T := TX3) (N := 11) hx hb hC hH hts in_X3_load_X3 hown F_41 rfl 1 (by decide) (hts (.fieldLink RX3 42 "LazyState$Run" "loadedBits" "I") (by decide +kernel)) rfl dX3_load_61 ?_
      refine lv_iconst (v := 1) hx hb dX3_load_64 (by decide) ?_
      refine lv_iload_n hx hb dX3_load_65 rfl (lv_at hl 1 rfl) ?_
      refine lv_ishl hx hb dX3_load_66 ?_
      refine lv_topi (fun x_42 ex_42 => ?_)
      refine lv_ior hx hb dX3_load_67 ?_
      refine lv_topi (fun x_43 ex_43 => ?_)
      refine m_put (ci := 3) (v := .int x_43) (C := RX3) (T := TX3) (N := 11) hx hb hC hH hts in_X3_load_X3 tyX3 tyX3_ok nmX3 hown F_41 rfl 1 (by decide) (hts (.fieldLink RX3 42 "LazyState$Run" "loadedBits" "I") (by decide +kernel)) rfl rfl rfl (Nat.le_of_ble_eq_true rfl) dX3_load_68 (fun H locs hH => ?_)
      have hH : mH G s (va_up f_37 (k (5 + 8 * i)) (some (.inr (3, [.ref (k (5 + 8 * i + 1)), .int x_43, .int dn_41, .long gf_41, .int th_41, .int ta_41, .ref (k 1), .ref (k (5 + 8 * i + 5)), .ref (k (5 + 8 * i + 6)), .ref (k (5 + 8 * i + 7)), .int nx_41])))) H locs := hH
      obtain ⟨f_44, ef_44⟩ : ∃ zz_ : mF, zz_ = va_up f_37 (k (5 + 8 * i)) (some (.inr (3, [.ref (k (5 + 8 * i + 1)), .int x_43, .int dn_41, .long gf_41, .int th_41, .int ta_41, .ref (k 1), .ref (k (5 + 8 * i + 5)), .ref (k (5 + 8 * i + 6)), .ref (k (5 + 8 * i + 7)), .int nx_41]))) := ⟨_, rfl⟩
      rw [← ef_44] at hH
      have hg_45 := upk hg_40 ef_44 (neC hj (i := (5 + 8 * i + 5)) (j := (5 + 8 * i + 0)) (by omega) (by omega) (by omega))
      have F_46 : f_44 (k (5 + 8 * i)) = some (.inr (3, [.ref (k (5 + 8 * i + 1)), .int x_43, .int dn_41, .long gf_41, .int th_41, .int ta_41, .ref (k 1), .ref (k (5 + 8 * i + 5)), .ref (k (5 + 8 * i + 6)), .ref (k (5 + 8 * i + 7)), .int nx_41])) := by rw [ef_44]; exact va_up_self _ _ _
      have H5n_ := upk hg_40 ef_44 (neC hj (by omega) (by omega) (by omega))
      have hI : IC G k rho n T z st f_44 := hI.setRunX hi (fun _ _ => rfl) ef_44 ⟨_, _, _, _, _, some (k 1), _, rfl, Or.inr rfl, fun _ => rfl⟩ (xLd_mk F_46 rfl H5n_ (fun o_ ho_ hb_ => (btC_or (o := o) ⟨by omega, by omega⟩ ho_ (by rw [← ex_42, ← ex_43]; exact hb_)).elim (fun z_ => by rw [z_]; exact nz_) (fun z_ => hI.2.2.1 i hi _ _ _ F_41 rfl hg_40 o_ ho_ z_)))
      have hk6 := (upn ef_44 (neC hj (by omega) (by omega) (by omega))).trans hk6
      have hk7 := (upn ef_44 (neC hj (by omega) (by omega) (by omega))).trans hk7
      have cF_ : cpF k i f_44 = g_40 := cpF_eq H5n_
      have hfr := hfr.upK (j := (5 + 8 * i + 0)) (by omega) ef_44
      exact m_vret hx hb hr hlk hC hH rho ⟨hI, hfr, by rw [cF_]; exact nz_, by rw [cF_, cy_, ndv_, cq_]; rfl, fun q_ hq_ => by rw [cF_, cy_, ← cq_], hk6, hk7⟩ (by omega) (by omega) dX3_load_71
  · skip
    have ic_5 : (r_2.toInt : Int) = 1 := ic_eq rfl kI_1 c_5
    have ib_ : r_2.toInt = 1 := by omega
    obtain ⟨g_47, hg_47, hp_47⟩ : okQ G 3 24 (pCp rho n T) (f (k (5 + 8 * i + 5))) := hI.run (i := i) (c := 5) hi (by decide)
    have nn_ := hI.2.2.1 i hi _ _ _ F_1 rfl hg_47 o.toNatClampNeg (ic_cl rfl (by omega) (by omega)) (by unfold btC; rw [show nI o.toNatClampNeg = o from (ic_inj (ic_clN rfl (by omega)).symm (by have := ic_clN (rfl : o.toInt = _) (by omega); omega)).symm]; have hq_ := hr_2; rw [hq_] at ib_; exact Int32.toInt_inj.mp (by rw [ib_]; rfl))
    have nc_ : cpF k i f o.toNatClampNeg ≠ none := by rw [cpF_eq hg_47]; exact nn_
    exact m_vret hx hb hr hlk hC hH rho ⟨hI, hfr, ⟨nc_, by rw [nd_0 nc_]; rfl, fun _ _ => rfl, rfl, rfl⟩⟩ (by omega) (by omega) dX3_load_12
