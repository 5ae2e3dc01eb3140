set_option maxHeartbeats 4000000 in
set_option maxRecDepth 100000 in
theorem c_X5_view (l : Launch) (G : mG) (k : Nat → Nat) (own : tR) (n : Nat) (T z : Nat → Nat) (A : Nat → tA) (hg : Nat) (ver : Nat → Nat → tB) (cq : Nat → Bool) (fe : Int32) (tms : Nat → Int32) (ca : Int32) (wl : List Nat) (wh : Int32) (ac th : Nat) (sx : Int32) (ld : Nat → Bool) (tr : List Nat) (gf : Int64) (D : tD) (f : mF) (hM : CM G k own n z D f) (hG : GC n T z A hg ver cq fe tms ca wl wh ac th sx ld tr gf D) (o j a ix : Int32) : Met l yX5_view wsX5_view ({ frames := 2, cells := 0, slots := 0, locals := 43 }) (va_Pc [.ref (k 0), .int o, .int j, .int a, .int ix] (mW G f)) (va_Ql (fun (r : Int64) (u : mS) => frD own f u.1 u.2 ∧ ∃ sx2, vwA n T hg ver o j a ix r sx2 ∧ (∃ D2, CM G k u.1 n z D2 u.2 ∧ GC n T z A hg ver cq fe tms ca wl wh ac th sx2 ld tr gf D2)) (fun (u : mS) t => mW G u.2 t) (mA G)) 0 0 (mA G) := by
  refine mMet [.ref (k 0), .int o, .int j, .int a, .int ix] (cc := cX5_view) (maxL := 7) (ret := (some .long)) (by decide) rfl (Nat.le_of_ble_eq_true rfl) ?_
  intro p e s m below meth c ls hx hb hr hml hts hown hlk hnm hC hH hl
  have hl : lv_has ls 7 [(0, .ref (k 0)), (1, .int o), (2, .int j), (3, .int a), (4, .int ix)] := hl
  have hfr : frD own f own f := frD.rf
  have n24_ := hG.bs.1
  have hT3_ := hG.bs.2
  have h40_ := hG.h40
  have wl_ := hG.wr.1
  obtain ⟨cb_1, hl_1, hcb_1⟩ := hG.ln
  obtain ⟨⟨lb_1, st_1, nx_1, hq0_1, hlb_1⟩, htr_1, hld_⟩ := hG.lt
  have hlen_ := len_b htr_1.1
  have ol_ := ocn_le tr
  have tn_1 : (nI n).toInt = ((n : Nat) : Int) := nI_toInt (by omega)
  have th_1 : (nI hg).toInt = ((hg : Nat) : Int) := nI_toInt (by omega)
  have tw_1 : (nI wl.length).toInt = ((wl.length : Nat) : Int) := nI_toInt (by omega)
  have te_1 : (eD D 0).1.toInt = ((tr.length : Nat) : Int) := by rw [htr_1.2.1]; exact nI_toInt (by omega)
  refine lv_aload_n hx hb dX5_view_0 rfl (lv_at hl 0 rfl) ?_
  refine lv_iconst (v := (-1)) hx hb dX5_view_1 (by decide) ?_
  have F_2 : f (k 0) = some (.inr (5, [.ref (k 1), .int (nI n), .int (nI hg), .ref (k 2), .ref (k 5), .ref (k 13), .ref (k 21), .int ca, .int fe, .int cb_1, .ref (k 3), .int (nI wl.length), .ref (k 4), .int sx])) := by have w_ := hM.c0; rw [hl_1] at w_; exact w_
  refine m_put (ci := 5) (v := .int (-1)) (C := RX5) (T := TX5) (N := 14) hx hb hC hH hts in_X5_view_X5 tyX5 tyX5_ok nmX5 hown F_2 rfl 13 (by decide) (hts (.fieldLink RX5 41 "LazyState" "viewStatus" "I") (by decide +kernel)) rfl rfl rfl (Nat.le_of_ble_eq_true rfl) dX5_view_2 (fun H locs hH => ?_)
  have hH : mH G s (va_up f (k 0) (some (.inr (5, [.ref (k 1), .int (nI n), .int (nI hg), .ref (k 2), .ref (k 5), .ref (k 13), .ref (k 21), .int ca, .int fe, .int cb_1, .ref (k 3), .int (nI wl.length), .ref (k 4), .int (-1)])))) H locs := hH
  obtain ⟨f_3, ef_3⟩ : ∃ zz_ : mF, zz_ = va_up f (k 0) (some (.inr (5, [.ref (k 1), .int (nI n), .int (nI hg), .ref (k 2), .ref (k 5), .ref (k 13), .ref (k 21), .int ca, .int fe, .int cb_1, .ref (k 3), .int (nI wl.length), .ref (k 4), .int (-1)]))) := ⟨_, rfl⟩
  rw [← ef_3] at hH
  have hfr := hfr.up (by rw [hM.ok 0 (by omega)]; exact (by decide : (1 : Nat) ≠ 0)) ef_3
  have hM := hM.setL (n2 := n) (c := (nI hg, ca, fe, cb_1, nI wl.length, (-1))) ef_3
  have hG := hG.L (cq2 := cq) (fe2 := fe) (ca2 := ca) (cb2 := cb_1) (sx2 := (-1)) hcb_1
  obtain ⟨D_4, eD_4⟩ : ∃ d_ : tD, d_ = dL D (nI hg, ca, fe, cb_1, nI wl.length, (-1)) := ⟨_, rfl⟩
  have hM : CM G k own n z D_4 f_3 := by rw [eD_4]; exact hM
  have hG : GC n T z A hg ver cq fe tms ca wl wh ac th (-1) ld tr gf D_4 := by rw [eD_4]; exact hG
  have n24_ := hG.bs.1
  have hT3_ := hG.bs.2
  have h40_ := hG.h40
  have wl_ := hG.wr.1
  obtain ⟨cb_5, hl_5, hcb_5⟩ := hG.ln
  obtain ⟨⟨lb_5, st_5, nx_5, hq0_5, hlb_5⟩, htr_5, hld_⟩ := hG.lt
  have hlen_ := len_b htr_5.1
  have ol_ := ocn_le tr
  have tn_5 : (nI n).toInt = ((n : Nat) : Int) := nI_toInt (by omega)
  have th_5 : (nI hg).toInt = ((hg : Nat) : Int) := nI_toInt (by omega)
  have tw_5 : (nI wl.length).toInt = ((wl.length : Nat) : Int) := nI_toInt (by omega)
  have te_5 : (eD D_4 0).1.toInt = ((tr.length : Nat) : Int) := by rw [htr_5.2.1]; exact nI_toInt (by omega)
  refine lv_aload_n hx hb dX5_view_5 rfl (lv_at hl 0 rfl) ?_
  refine lv_iload_n hx hb dX5_view_6 rfl (lv_at hl 1 rfl) ?_
  refine lv_iload_n hx hb dX5_view_7 rfl (lv_at hl 2 rfl) ?_
  have F_9 : f_3 (k 0) = some (.inr (5, [.ref (k 1), .int (nI n), .int (nI hg), .ref (k 2), .ref (k 5), .ref (k 13), .ref (k 21), .int ca, .int fe, .int cb_5, .ref (k 3), .int (nI wl.length), .ref (k 4), .int (-1)])) := by have w_ := hM.c0; rw [hl_5] at w_; exact w_
  refine m_goi hH (va_runV (As := [.int o, .int j]) (rest := []) ⟨hx, hb, hml, hown, hts⟩ (c_X5_sortAt l G k own n T z A hg ver cq fe tms ca wl wh ac th (-1) ld tr gf D_4 f_3 hM hG o j) (cwV 2 hts gX5_view_X5_sortAt rfl rfl rfl (by decide +kernel) ⟨Nat.le_of_ble_eq_true rfl, Nat.le_of_ble_eq_true rfl⟩) (m_preV (ci := 5) hC hH F_9 rfl) rfl rfl hl.1 rfl (lv_room (Nat.le_of_ble_eq_true rfl)) dX5_view_8 ⟨Nat.le_of_ble_eq_true rfl, Nat.le_of_ble_eq_true rfl⟩) (fun r_6 rho_8 f_7 H locs hw hH => ?_)
  obtain ⟨hu, hr_6⟩ := hw
  have hu : f_7 = f_3 := hu
  rw [hu] at hH
  try dsimp only at hr_6
  refine lv_istore (lv' := [(5, .int r_6), (0, .ref (k 0)), (1, .int o), (2, .int j), (3, .int a), (4, .int ix)]) hx hb dX5_view_11 hl (by decide) rfl (fun ls hl => ?_)
  refine lv_iload hx hb dX5_view_13 (lv_at hl 0 rfl) ?_
  refine lv_if_eq (tgt := 30) hx hb dX5_view_15 (by decide) (fun c_10 => ?_) (fun c_10 => ?_)
  · skip
    have ic_10 : (r_6.toInt : Int) = 0 := ic_eq rfl kI_0 c_10
    have nv_ : ¬ vwP n T hg o j a := fun z_ => by unfold vwP at z_; rcases hr_6 with ⟨a_, b_⟩ | ⟨a_, b_⟩; (have b2_ := srt_b (T o.toNatClampNeg) (hT3_ _) j.toNatClampNeg (by have := ic_clN (rfl : j.toInt = _) (by omega); omega); have b3_ : r_6.toInt = _ := (congrArg Int32.toInt b_).trans (nI_toInt (by omega)); omega); exact a_ (by omega)
    refine lv_ldc2 (v := (-1)) hx hb hown (hts (.constantLong RX5 173 (-1)) (by decide +kernel)) dX5_view_30 ?_
    exact m_lret (v := (-1)) hx hb hr hlk hC hH own ⟨hfr, _, Or.inl ⟨nv_, rfl, rfl⟩, ⟨_, hM, hG⟩⟩ (Nat.le_of_ble_eq_true rfl) (Nat.le_of_ble_eq_true rfl) dX5_view_33
  · skip
    have ic_10 : (r_6.toInt : Int) ≠ 0 := ic_ne rfl kI_0 c_10
    obtain ⟨sa_, sb_⟩ := hr_6.resolve_right (fun q_ => by omega)
    have sn_ : srt (T o.toNatClampNeg) j.toNatClampNeg ≠ 0 := fun z_ => by rw [z_] at sb_; rw [sb_] at ic_10; exact ic_10 rfl
    have sI_ : r_6.toInt = ((srt (T o.toNatClampNeg) j.toNatClampNeg : Nat) : Int) := by rw [sb_]; exact nI_toInt (by have := srt_b (T o.toNatClampNeg) (hT3_ _) j.toNatClampNeg (by have := ic_clN (rfl : j.toInt = _) (by omega); omega); omega)
    refine lv_iload_n hx hb dX5_view_18 rfl (lv_at hl 4 rfl) ?_
    refine lv_if_lt (tgt := 30) hx hb dX5_view_19 (by decide) (fun c_11 => ?_) (fun c_11 => ?_)
    · skip
      have ic_11 : (a.toInt : Int) < 0 := ic_lt rfl kI_0 c_11
      have nv_ : ¬ vwP n T hg o j a := fun z_ => by unfold vwP at z_; omega
      refine lv_ldc2 (v := (-1)) hx hb hown (hts (.constantLong RX5 173 (-1)) (by decide +kernel)) dX5_view_30 ?_
      exact m_lret (v := (-1)) hx hb hr hlk hC hH own ⟨hfr, _, Or.inl ⟨nv_, rfl, rfl⟩, ⟨_, hM, hG⟩⟩ (Nat.le_of_ble_eq_true rfl) (Nat.le_of_ble_eq_true rfl) dX5_view_33
    · skip
      have ic_11 : (a.toInt : Int) ≥ 0 := ic_nlt rfl kI_0 c_11
      refine lv_iload_n hx hb dX5_view_22 rfl (lv_at hl 4 rfl) ?_
      refine lv_aload_n hx hb dX5_view_23 rfl (lv_at hl 1 rfl) ?_
      refine m_get (ci := 5) (v := .int (nI hg)) (C := RX5) (T := TX5) (N := 14) hx hb hC hH hts in_X5_view_X5 hown F_9 rfl 2 (by decide) (hts (.fieldLink RX5 68 "LazyState" "heightNow" "I") (by decide +kernel)) rfl dX5_view_24 ?_
      refine lv_icmp_le (tgt := 34) hx hb dX5_view_27 (by decide) (fun c_12 => ?_) (fun c_12 => ?_)
      · skip
        have ic_12 : (a.toInt : Int) ≤ ((hg : Nat) : Int) := ic_le rfl th_5 c_12
        have pv_ : vwP n T hg o j a := ⟨by omega, by omega, by omega, by omega, sn_, by omega, by omega⟩
        refine lv_aload_n hx hb dX5_view_34 rfl (lv_at hl 1 rfl) ?_
        refine m_get (ci := 5) (v := .ref (k 1)) (C := RX5) (T := TX5) (N := 14) hx hb hC hH hts in_X5_view_X5 hown F_9 rfl 0 (by decide) (hts (.fieldLink RX5 11 "LazyState" "objects" "[LLazyState$Body;") (by decide +kernel)) rfl dX5_view_35 ?_
        refine lv_iload_n hx hb dX5_view_38 rfl (lv_at hl 2 rfl) ?_
        have hg_13 := hM.c1
        refine m_aald hx hb hC hH 3 rfl hg_13 (vp_in_iff.mpr ⟨by omega, by omega⟩) dX5_view_39 ?_
        obtain ⟨so_14, boso_14, Lso_14, h1so_14, h2so_14, h3so_14, h4so_14, h5so_14, h6so_14⟩ := hG.obs.hd (o := o.toNatClampNeg) (by have := ic_clN (rfl : o.toInt = _) (by omega); omega)
        rw [h1so_14]
        refine lv_iload_n hx hb dX5_view_40 rfl (lv_at hl 4 rfl) ?_
        have F_18 : f_3 so_14 = some (.inr (2, [.int (nI (yB boso_14)), .ref (caB boso_14), .ref (iaB boso_14), .int (siB boso_14), va_rf (bfB boso_14)])) := (hM.bf h2so_14).1
        have tI_18 : (nI (yB boso_14)).toInt = ((yB boso_14 : Nat) : Int) := nI_toInt (by rw [h4so_14]; have := hT3_ o.toNatClampNeg; omega)
        refine m_goq hH (va_runV (As := [.int a]) (rest := []) ⟨hx, hb, hml, hown, hts⟩ (c_X2_asOf l G k own n z D_4 f_3 hM o.toNatClampNeg (T o.toNatClampNeg) hg (fun x_ => ver x_ o.toNatClampNeg) Lso_14 so_14 h6so_14 (hT3_ _) h40_ a (by omega)) (cwV 1 hts gX5_view_X2_asOf rfl rfl rfl (by decide +kernel) ⟨Nat.le_of_ble_eq_true rfl, Nat.le_of_ble_eq_true rfl⟩) (m_preV (ci := 2) hC hH F_18 rfl) rfl rfl hl.1 rfl (lv_room (Nat.le_of_ble_eq_true rfl)) dX5_view_41 ⟨Nat.le_of_ble_eq_true rfl, Nat.le_of_ble_eq_true rfl⟩) (fun r_15 rho_17 f_16 H locs hw hH => ?_)
        obtain ⟨hu, va_, vb_, hv_, v1_, v2_, v3_⟩ := hw
        have hu : f_16 = f_3 := hu
        rw [hu] at hH
        have hv_ : r_15 = some va_ := hv_
        rw [hv_]
        refine lv_astore (lv' := [(6, .ref va_), (5, .int r_6), (0, .ref (k 0)), (1, .int o), (2, .int j), (3, .int a), (4, .int ix)]) hx hb dX5_view_44 hl (by decide) rfl (fun ls hl => ?_)
        refine lv_iload hx hb dX5_view_46 (lv_at hl 6 rfl) ?_
        refine lv_bipush (v := (-3)) hx hb dX5_view_48 (by decide) ?_
        refine lv_icmp_ne (tgt := 66) hx hb dX5_view_50 (by decide) (fun c_19 => ?_) (fun c_19 => ?_)
        · skip
          have ic_19 : (ix.toInt : Int) ≠ (-3) := ic_ne rfl kI_m3 c_19
          refine lv_iload hx hb dX5_view_66 (lv_at hl 1 rfl) ?_
          refine lv_iconst (v := 3) hx hb dX5_view_68 (by decide) ?_
          refine lv_icmp_ne (tgt := 84) hx hb dX5_view_69 (by decide) (fun c_20 => ?_) (fun c_20 => ?_)
          · skip
            have ic_20 : (r_6.toInt : Int) ≠ 3 := ic_ne rfl kI_3 c_20
            refine lv_ldc2 (v := (-1)) hx hb hown (hts (.constantLong RX5 173 (-1)) (by decide +kernel)) dX5_view_84 ?_
            exact m_lret (v := (-1)) hx hb hr hlk hC hH own ⟨hfr, _, Or.inr (Or.inr (Or.inr ⟨pv_, by omega, Or.inl (fun z_ => by omega), rfl, rfl⟩)), ⟨_, hM, hG⟩⟩ (Nat.le_of_ble_eq_true rfl) (Nat.le_of_ble_eq_true rfl) dX5_view_87
          · skip
            have ic_20 : (r_6.toInt : Int) = 3 := ic_eq rfl kI_3 c_20
            have s3_ : srt (T o.toNatClampNeg) j.toNatClampNeg = 3 := by omega
            have b8_ := (((hG.obs o.toNatClampNeg (by have := ic_clN (rfl : o.toInt = _) (by omega); omega)).1 a.toNatClampNeg (by have := ic_clN (rfl : a.toInt = _) (by omega); omega) j.toNatClampNeg (by have := ic_clN (rfl : j.toInt = _) (by omega); omega)).2.2 s3_).1
            refine lv_aload hx hb dX5_view_72 (lv_at hl 0 rfl) ?_
            refine lv_iload_n hx hb dX5_view_74 rfl (lv_at hl 4 rfl) ?_
            refine lv_iload hx hb dX5_view_75 (lv_at hl 6 rfl) ?_
            refine lv_i2l hx hb dX5_view_77 rfl ?_
            refine lv_topl (fun y_21 ey_21 => ?_)
            have iy_21 : y_21.toInt = ix.toInt := lc_i2l ey_21 rfl
            have gy_21 := ic_rng ix
            have F_25 : f_3 va_ = some (.inr (2, [.int (nI (yB vb_)), .ref (caB vb_), .ref (iaB vb_), .int (siB vb_), va_rf (bfB vb_)])) := (hM.bf v1_).1
            have tI_25 : (nI (yB vb_)).toInt = ((yB vb_ : Nat) : Int) := nI_toInt (by rw [v2_]; have := hT3_ o.toNatClampNeg; omega)
            refine m_goi hH (va_runV (As := [.int j, .long y_21]) (rest := []) ⟨hx, hb, hml, hown, hts⟩ (c_X2_hasItem l G f_3 va_ vb_ (hM.bf v1_) (by rw [v2_]; have := hT3_ o.toNatClampNeg; omega) j y_21 (by omega)) (cwV 2 hts gX5_view_X2_hasItem rfl rfl rfl (by decide +kernel) ⟨Nat.le_of_ble_eq_true rfl, Nat.le_of_ble_eq_true rfl⟩) (m_preV (ci := 2) hC hH F_25 rfl) rfl rfl hl.1 rfl (lv_room (Nat.le_of_ble_eq_true rfl)) dX5_view_78 ⟨Nat.le_of_ble_eq_true rfl, Nat.le_of_ble_eq_true rfl⟩) (fun r_22 rho_24 f_23 H locs hw hH => ?_)
            obtain ⟨hu, hr_22⟩ := hw
            have hu : f_23 = f_3 := hu
            rw [hu] at hH
            try dsimp only at hr_22
            refine lv_if_ne (tgt := 88) hx hb dX5_view_81 (by decide) (fun c_26 => ?_) (fun c_26 => ?_)
            · skip
              have ic_26 : (r_22.toInt : Int) ≠ 0 := ic_ne rfl kI_0 c_26
              have hi_ := (hr_22.resolve_right (fun q_ => by omega)).2
              rw [show (cB vb_).1 j.toNatClampNeg = (ver a.toNatClampNeg o.toNatClampNeg).1 j.toNatClampNeg from eqB_1 v3_ (by have := ic_clN (rfl : j.toInt = _) (by omega); omega)] at hi_
              refine lv_aload_n hx hb dX5_view_88 rfl (lv_at hl 2 rfl) ?_
              refine lv_iconst (v := 0) hx hb dX5_view_89 (by decide) ?_
              refine m_put (ci := 5) (v := .int 0) (C := RX5) (T := TX5) (N := 14) hx hb hC hH hts in_X5_view_X5 tyX5 tyX5_ok nmX5 hown F_9 rfl 13 (by decide) (hts (.fieldLink RX5 41 "LazyState" "viewStatus" "I") (by decide +kernel)) rfl rfl rfl (Nat.le_of_ble_eq_true rfl) dX5_view_90 (fun H locs hH => ?_)
              have hH : mH G s (va_up f_3 (k 0) (some (.inr (5, [.ref (k 1), .int (nI n), .int (nI hg), .ref (k 2), .ref (k 5), .ref (k 13), .ref (k 21), .int ca, .int fe, .int cb_5, .ref (k 3), .int (nI wl.length), .ref (k 4), .int 0])))) H locs := hH
              obtain ⟨f_27, ef_27⟩ : ∃ zz_ : mF, zz_ = va_up f_3 (k 0) (some (.inr (5, [.ref (k 1), .int (nI n), .int (nI hg), .ref (k 2), .ref (k 5), .ref (k 13), .ref (k 21), .int ca, .int fe, .int cb_5, .ref (k 3), .int (nI wl.length), .ref (k 4), .int 0]))) := ⟨_, rfl⟩
              rw [← ef_27] at hH
              have hfr := hfr.up (by rw [hM.ok 0 (by omega)]; exact (by decide : (1 : Nat) ≠ 0)) ef_27
              have hM := hM.setL (n2 := n) (c := (nI hg, ca, fe, cb_5, nI wl.length, 0)) ef_27
              have hG := hG.L (cq2 := cq) (fe2 := fe) (ca2 := ca) (cb2 := cb_5) (sx2 := 0) hcb_5
              obtain ⟨D_28, eD_28⟩ : ∃ d_ : tD, d_ = dL D_4 (nI hg, ca, fe, cb_5, nI wl.length, 0) := ⟨_, rfl⟩
              have hM : CM G k own n z D_28 f_27 := by rw [eD_28]; exact hM
              have hG : GC n T z A hg ver cq fe tms ca wl wh ac th 0 ld tr gf D_28 := by rw [eD_28]; exact hG
              have v1_ : BD D_28 va_ = some vb_ := by rw [eD_28]; exact v1_
              have n24_ := hG.bs.1
              have hT3_ := hG.bs.2
              have h40_ := hG.h40
              have wl_ := hG.wr.1
              obtain ⟨cb_29, hl_29, hcb_29⟩ := hG.ln
              obtain ⟨⟨lb_29, st_29, nx_29, hq0_29, hlb_29⟩, htr_29, hld_⟩ := hG.lt
              have hlen_ := len_b htr_29.1
              have ol_ := ocn_le tr
              have tn_29 : (nI n).toInt = ((n : Nat) : Int) := nI_toInt (by omega)
              have th_29 : (nI hg).toInt = ((hg : Nat) : Int) := nI_toInt (by omega)
              have tw_29 : (nI wl.length).toInt = ((wl.length : Nat) : Int) := nI_toInt (by omega)
              have te_29 : (eD D_28 0).1.toInt = ((tr.length : Nat) : Int) := by rw [htr_29.2.1]; exact nI_toInt (by omega)
              refine lv_aload hx hb dX5_view_93 (lv_at hl 0 rfl) ?_
              have F_30 : f_27 va_ = some (.inr (2, [.int (nI (yB vb_)), .ref (caB vb_), .ref (iaB vb_), .int (siB vb_), va_rf (bfB vb_)])) := (hM.bf v1_).1
              have tI_30 : (nI (yB vb_)).toInt = ((yB vb_ : Nat) : Int) := nI_toInt (by rw [v2_]; have := hT3_ o.toNatClampNeg; omega)
              refine m_get (ci := 2) (v := .ref (iaB vb_)) (C := RX2) (T := TX2) (N := 5) hx hb hC hH hts in_X5_view_X2 hown F_30 rfl 2 (by decide) (hts (.fieldLink RX5 187 "LazyState$Body" "items" "[I") (by decide +kernel)) rfl dX5_view_95 ?_
              refine lv_iload_n hx hb dX5_view_98 rfl (lv_at hl 4 rfl) ?_
              refine lv_iload hx hb dX5_view_99 (lv_at hl 6 rfl) ?_
              refine m_goi hH (va_runS (As := [.int j, .int ix]) (rest := [.ref (iaB vb_)]) ⟨hx, hb, hml, hown, hts⟩ (c_X2_itemPlace l G f_27 j ix (by omega)) (va_cwS 2 hts gX5_view_X2_itemPlace rfl rfl rfl (by decide +kernel) ⟨Nat.le_of_ble_eq_true rfl, Nat.le_of_ble_eq_true rfl⟩) (m_preS hC hH) rfl rfl hl.1 rfl (lv_room (Nat.le_of_ble_eq_true rfl)) dX5_view_101 ⟨Nat.le_of_ble_eq_true rfl, Nat.le_of_ble_eq_true rfl⟩) (fun r_31 rho_33 f_32 H locs hw hH => ?_)
              obtain ⟨hu, hr_31⟩ := hw
              have hu : f_32 = f_27 := hu
              rw [hu] at hH
              try dsimp only at hr_31
              have hg_34 : f_27 (iaB vb_) = some (.inl (gk G 0, 16, .inl ((cB vb_).2))) := (hM.bf v1_).2.2
              refine m_iald hx hb hC hH hg_34 (vp_in_iff.mpr ⟨by omega, by omega⟩) dX5_view_104 ?_
              refine lv_topi (fun x_35 ex_35 => ?_)
              have iv_ : x_35 = (ver a.toNatClampNeg o.toNatClampNeg).2 (plc j.toNatClampNeg ix.toNatClampNeg) := by rw [ex_35, show r_31.toNatClampNeg = plc j.toNatClampNeg ix.toNatClampNeg from by have := ic_clN (rfl : r_31.toInt = _) (by omega); have := ic_clN (rfl : j.toInt = _) (by omega); have := ic_clN (rfl : ix.toInt = _) (by omega); unfold plc; rcases hr_31 with y_ | y_; (rw [if_pos (by omega)]; omega); (rw [if_neg (by omega)]; omega)]; exact eqB_2 v3_ (by have := ic_clN (rfl : j.toInt = _) (by omega); omega) s3_ (by have := ic_clN (rfl : ix.toInt = _) (by omega); omega)
              refine lv_i2l hx hb dX5_view_105 rfl ?_
              refine lv_topl (fun y_36 ey_36 => ?_)
              have iy_36 : y_36.toInt = x_35.toInt := lc_i2l ey_36 rfl
              have gy_36 := ic_rng x_35
              exact m_lret (v := y_36) hx hb hr hlk hC hH own ⟨hfr, _, Or.inr (Or.inr (Or.inl ⟨pv_, s3_, by omega, by omega, by rw [ey_36, iv_], rfl⟩)), ⟨_, hM, hG⟩⟩ (Nat.le_of_ble_eq_true rfl) (Nat.le_of_ble_eq_true rfl) dX5_view_106
            · skip
              have ic_26 : (r_22.toInt : Int) = 0 := ic_eq rfl kI_0 c_26
              have hi_ := (hr_22.resolve_left (fun q_ => by omega)).2
              rw [show (cB vb_).1 j.toNatClampNeg = (ver a.toNatClampNeg o.toNatClampNeg).1 j.toNatClampNeg from eqB_1 v3_ (by have := ic_clN (rfl : j.toInt = _) (by omega); omega)] at hi_
              refine lv_ldc2 (v := (-1)) hx hb hown (hts (.constantLong RX5 173 (-1)) (by decide +kernel)) dX5_view_84 ?_
              exact m_lret (v := (-1)) hx hb hr hlk hC hH own ⟨hfr, _, Or.inr (Or.inr (Or.inr ⟨pv_, by omega, Or.inr (by omega), rfl, rfl⟩)), ⟨_, hM, hG⟩⟩ (Nat.le_of_ble_eq_true rfl) (Nat.le_of_ble_eq_true rfl) dX5_view_87
        · skip
          have ic_19 : (ix.toInt : Int) = (-3) := ic_eq rfl kI_m3 c_19
          refine lv_aload_n hx hb dX5_view_53 rfl (lv_at hl 2 rfl) ?_
          refine lv_iconst (v := 0) hx hb dX5_view_54 (by decide) ?_
          refine m_put (ci := 5) (v := .int 0) (C := RX5) (T := TX5) (N := 14) hx hb hC hH hts in_X5_view_X5 tyX5 tyX5_ok nmX5 hown F_9 rfl 13 (by decide) (hts (.fieldLink RX5 41 "LazyState" "viewStatus" "I") (by decide +kernel)) rfl rfl rfl (Nat.le_of_ble_eq_true rfl) dX5_view_55 (fun H locs hH => ?_)
          have hH : mH G s (va_up f_3 (k 0) (some (.inr (5, [.ref (k 1), .int (nI n), .int (nI hg), .ref (k 2), .ref (k 5), .ref (k 13), .ref (k 21), .int ca, .int fe, .int cb_5, .ref (k 3), .int (nI wl.length), .ref (k 4), .int 0])))) H locs := hH
          obtain ⟨f_37, ef_37⟩ : ∃ zz_ : mF, zz_ = va_up f_3 (k 0) (some (.inr (5, [.ref (k 1), .int (nI n), .int (nI hg), .ref (k 2), .ref (k 5), .ref (k 13), .ref (k 21), .int ca, .int fe, .int cb_5, .ref (k 3), .int (nI wl.length), .ref (k 4), .int 0]))) := ⟨_, rfl⟩
          rw [← ef_37] at hH
          have hfr := hfr.up (by rw [hM.ok 0 (by omega)]; exact (by decide : (1 : Nat) ≠ 0)) ef_37
          have hM := hM.setL (n2 := n) (c := (nI hg, ca, fe, cb_5, nI wl.length, 0)) ef_37
          have hG := hG.L (cq2 := cq) (fe2 := fe) (ca2 := ca) (cb2 := cb_5) (sx2 := 0) hcb_5
          obtain ⟨D_38, eD_38⟩ : ∃ d_ : tD, d_ = dL D_4 (nI hg, ca, fe, cb_5, nI wl.length, 0) := ⟨_, rfl⟩
          have hM : CM G k own n z D_38 f_37 := by rw [eD_38]; exact hM
          have hG : GC n T z A hg ver cq fe tms ca wl wh ac th 0 ld tr gf D_38 := by rw [eD_38]; exact hG
          have v1_ : BD D_38 va_ = some vb_ := by rw [eD_38]; exact v1_
          have n24_ := hG.bs.1
          have hT3_ := hG.bs.2
          have h40_ := hG.h40
          have wl_ := hG.wr.1
          obtain ⟨cb_39, hl_39, hcb_39⟩ := hG.ln
          obtain ⟨⟨lb_39, st_39, nx_39, hq0_39, hlb_39⟩, htr_39, hld_⟩ := hG.lt
          have hlen_ := len_b htr_39.1
          have ol_ := ocn_le tr
          have tn_39 : (nI n).toInt = ((n : Nat) : Int) := nI_toInt (by omega)
          have th_39 : (nI hg).toInt = ((hg : Nat) : Int) := nI_toInt (by omega)
          have tw_39 : (nI wl.length).toInt = ((wl.length : Nat) : Int) := nI_toInt (by omega)
          have te_39 : (eD D_38 0).1.toInt = ((tr.length : Nat) : Int) := by rw [htr_39.2.1]; exact nI_toInt (by omega)
          refine lv_aload hx hb dX5_view_58 (lv_at hl 0 rfl) ?_
          have F_40 : f_37 va_ = some (.inr (2, [.int (nI (yB vb_)), .ref (caB vb_), .ref (iaB vb_), .int (siB vb_), va_rf (bfB vb_)])) := (hM.bf v1_).1
          have tI_40 : (nI (yB vb_)).toInt = ((yB vb_ : Nat) : Int) := nI_toInt (by rw [v2_]; have := hT3_ o.toNatClampNeg; omega)
          refine m_get (ci := 2) (v := .ref (caB vb_)) (C := RX2) (T := TX2) (N := 5) hx hb hC hH hts in_X5_view_X2 hown F_40 rfl 1 (by decide) (hts (.fieldLink RX5 179 "LazyState$Body" "cells" "[J") (by decide +kernel)) rfl dX5_view_60 ?_
          refine lv_iload_n hx hb dX5_view_63 rfl (lv_at hl 4 rfl) ?_
          have hg_41 : f_37 (caB vb_) = some (.inl (gk G 1, 8, .inr (.inl ((cB vb_).1)))) := (hM.bf v1_).2.1
          refine m_lald hx hb hC hH hg_41 (vp_in_iff.mpr ⟨by omega, by omega⟩) dX5_view_64 ?_
          refine lv_topl (fun y_42 ey_42 => ?_)
          have cv_ : y_42 = (ver a.toNatClampNeg o.toNatClampNeg).1 j.toNatClampNeg := by rw [ey_42]; exact eqB_1 v3_ (by have := ic_clN (rfl : j.toInt = _) (by omega); omega)
          exact m_lret (v := y_42) hx hb hr hlk hC hH own ⟨hfr, _, Or.inr (Or.inl ⟨pv_, by omega, cv_, rfl⟩), ⟨_, hM, hG⟩⟩ (Nat.le_of_ble_eq_true rfl) (Nat.le_of_ble_eq_true rfl) dX5_view_65
      · skip
        have ic_12 : (a.toInt : Int) > ((hg : Nat) : Int) := ic_nle rfl th_5 c_12
        have nv_ : ¬ vwP n T hg o j a := fun z_ => by unfold vwP at z_; omega
        refine lv_ldc2 (v := (-1)) hx hb hown (hts (.constantLong RX5 173 (-1)) (by decide +kernel)) dX5_view_30 ?_
        exact m_lret (v := (-1)) hx hb hr hlk hC hH own ⟨hfr, _, Or.inl ⟨nv_, rfl, rfl⟩, ⟨_, hM, hG⟩⟩ (Nat.le_of_ble_eq_true rfl) (Nat.le_of_ble_eq_true rfl) dX5_view_33
set_option maxHeartbeats 4000000 in
set_option maxRecDepth 100000 in
theorem c_X5_clear (l : Launch) (G : mG) (k : Nat → Nat) (own : tR) (n : Nat) (T z : Nat → Nat) (A : Nat → tA) (hg : Nat) (ver : Nat → Nat → tB) (cq : Nat → Bool) (fe : Int32) (tms : Nat → Int32) (ca : Int32) (wl : List Nat) (wh : Int32) (ac th : Nat) (sx : Int32) (ld : Nat → Bool) (tr : List Nat) (gf : Int64) (D : tD) (f : mF) (hM : CM G k own n z D f) (hG : GC n T z A hg ver cq fe tms ca wl wh ac th sx ld tr gf D) (b : Int32) : Met l yX5_clear wsX5_clear ({ frames := 1, cells := 0, slots := 0, locals := 21 }) (va_Pc [.ref (k 0), .int b] (mW G f)) (va_Qi (fun (r : Int32) (u : mS) => frD own f u.1 u.2 ∧ (((b.toInt < 0 ∨ 6 ≤ b.toInt) ∧ r.toInt = -1 ∧ (∃ D2, CM G k u.1 n z D2 u.2 ∧ GC n T z A hg ver cq fe tms ca wl wh ac th sx ld tr gf D2)) ∨ (0 ≤ b.toInt ∧ b.toInt < 6 ∧ r.toInt = z b.toNatClampNeg ∧ (∃ D2, CM G k u.1 n (va_up z b.toNatClampNeg 0) D2 u.2 ∧ GC n T (va_up z b.toNatClampNeg 0) A hg ver cq fe tms ca wl wh ac th sx ld tr gf D2)))) (fun (u : mS) t => mW G u.2 t) (mA G)) 0 0 (mA G) := by
  refine mMet [.ref (k 0), .int b] (cc := cX5_clear) (maxL := 2) (ret := (some .int)) (by decide) rfl (Nat.le_of_ble_eq_true rfl) ?_
  intro p e s m below meth c ls hx hb hr hml hts hown hlk hnm hC hH hl
  have hl : lv_has ls 2 [(0, .ref (k 0)), (1, .int b)] := hl
  have hfr : frD own f own f := frD.rf
  have n24_ := hG.bs.1
  have hT3_ := hG.bs.2
  have h40_ := hG.h40
  have wl_ := hG.wr.1
  obtain ⟨cb_1, hl_1, hcb_1⟩ := hG.ln
  obtain ⟨⟨lb_1, st_1, nx_1, hq0_1, hlb_1⟩, htr_1, hld_⟩ := hG.lt
  have hlen_ := len_b htr_1.1
  have ol_ := ocn_le tr
  have tn_1 : (nI n).toInt = ((n : Nat) : Int) := nI_toInt (by omega)
  have th_1 : (nI hg).toInt = ((hg : Nat) : Int) := nI_toInt (by omega)
  have tw_1 : (nI wl.length).toInt = ((wl.length : Nat) : Int) := nI_toInt (by omega)
  have te_1 : (eD D 0).1.toInt = ((tr.length : Nat) : Int) := by rw [htr_1.2.1]; exact nI_toInt (by omega)
  refine lv_iload_n hx hb dX5_clear_0 rfl (lv_at hl 1 rfl) ?_
  refine m_goi hH (va_runS (As := [.int b]) (rest := []) ⟨hx, hb, hml, hown, hts⟩ (c_X5_isBehaviour l G f b) (va_cwS 1 hts gX5_clear_X5_isBehaviour rfl rfl rfl (by decide +kernel) ⟨Nat.le_of_ble_eq_true rfl, Nat.le_of_ble_eq_true rfl⟩) (m_preS hC hH) rfl rfl hl.1 rfl (lv_room (Nat.le_of_ble_eq_true rfl)) dX5_clear_1 ⟨Nat.le_of_ble_eq_true rfl, Nat.le_of_ble_eq_true rfl⟩) (fun r_2 rho_4 f_3 H locs hw hH => ?_)
  obtain ⟨hu, hr_2⟩ := hw
  have hu : f_3 = f := hu
  rw [hu] at hH
  try dsimp only at hr_2
  refine lv_if_eq (tgt := 19) hx hb dX5_clear_4 (by decide) (fun c_5 => ?_) (fun c_5 => ?_)
  · skip
    have ic_5 : (r_2.toInt : Int) = 0 := ic_eq rfl kI_0 c_5
    refine lv_iconst (v := (-1)) hx hb dX5_clear_19 (by decide) ?_
    exact m_iret (v := (-1)) hx hb hr hlk hC hH own ⟨hfr, Or.inl ⟨by omega, kI_m1, _, hM, hG⟩⟩ (Nat.le_of_ble_eq_true rfl) (Nat.le_of_ble_eq_true rfl) dX5_clear_20
  · skip
    have ic_5 : (r_2.toInt : Int) ≠ 0 := ic_ne rfl kI_0 c_5
    have cb0_ := ic_clN (rfl : b.toInt = _) (by omega)
    refine lv_aload_n hx hb dX5_clear_7 rfl (lv_at hl 0 rfl) ?_
    have F_6 : f (k 0) = some (.inr (5, [.ref (k 1), .int (nI n), .int (nI hg), .ref (k 2), .ref (k 5), .ref (k 13), .ref (k 21), .int ca, .int fe, .int cb_1, .ref (k 3), .int (nI wl.length), .ref (k 4), .int sx])) := by have w_ := hM.c0; rw [hl_1] at w_; exact w_
    refine m_get (ci := 5) (v := .ref (k 2)) (C := RX5) (T := TX5) (N := 14) hx hb hC hH hts in_X5_clear_X5 hown F_6 rfl 3 (by decide) (hts (.fieldLink RX5 17 "LazyState" "behaviours" "[LLazyState$Behaviour;") (by decide +kernel)) rfl dX5_clear_8 ?_
    refine lv_iload_n hx hb dX5_clear_11 rfl (lv_at hl 1 rfl) ?_
    have hg_7 := hM.c2
    refine m_aald hx hb hC hH 4 rfl hg_7 (vp_in_iff.mpr ⟨by omega, by omega⟩) dX5_clear_12 ?_
    rw [hM.bq b.toNatClampNeg (by have := ic_clN (rfl : b.toInt = _) (by omega); omega)]
    have F_11 := hM.b0 b.toNatClampNeg (by have := ic_clN (rfl : b.toInt = _) (by omega); omega)
    refine m_goi hH (va_runV (As := []) (rest := []) ⟨hx, hb, hml, hown, hts⟩ (c_X1_empty l G k own n z D f hM b.toNatClampNeg (by omega) (hG.z32 _)) (cwV 0 hts gX5_clear_X1_empty rfl rfl rfl (by decide +kernel) ⟨Nat.le_of_ble_eq_true rfl, Nat.le_of_ble_eq_true rfl⟩) (m_preV (ci := 1) hC hH F_11 rfl) rfl rfl hl.1 rfl (lv_room (Nat.le_of_ble_eq_true rfl)) dX5_clear_13 ⟨Nat.le_of_ble_eq_true rfl, Nat.le_of_ble_eq_true rfl⟩) (fun r_8 rho_10 f_9 H locs hw hH => ?_)
    obtain ⟨hM, hfr1, hr_8⟩ := hw
    have hM : CM G k rho_10 n (va_up z b.toNatClampNeg 0) D f_9 := hM
    have hfr1 : frD own f rho_10 f_9 := hfr1
    have hfr := hfr.trans hfr1
    have hr_8 : r_8.toInt = ((z b.toNatClampNeg : Nat) : Int) := hr_8
    refine lv_goto (tgt := 20) hx hb dX5_clear_16 (by decide) ?_
    exact m_iret (v := r_8) hx hb hr hlk hC hH rho_10 ⟨hfr, Or.inr ⟨by omega, by omega, hr_8, _, hM, hG.clr⟩⟩ (Nat.le_of_ble_eq_true rfl) (Nat.le_of_ble_eq_true rfl) dX5_clear_20
set_option maxHeartbeats 4000000 in
set_option maxRecDepth 100000 in
theorem c_X5_act (l : Launch) (G : mG) (k : Nat → Nat) (own : tR) (n : Nat) (T z : Nat → Nat) (A : Nat → tA) (hg : Nat) (ver : Nat → Nat → tB) (cq : Nat → Bool) (fe : Int32) (tms : Nat → Int32) (ca : Int32) (wl : List Nat) (wh : Int32) (ac th : Nat) (sx : Int32) (ld : Nat → Bool) (tr : List Nat) (gf : Int64) (D : tD) (f : mF) (hM : CM G k own n z D f) (hG : GC n T z A hg ver cq fe tms ca wl wh ac th sx ld tr gf D) (b kd a : Int32) (bb : Int64) (c_ d_ e_ : Int32) : Met l yX5_act wsX5_act ({ frames := 2, cells := 1, slots := 6, locals := 44 }) (va_Pc [.ref (k 0), .int b, .int kd, .int a, .long bb, .int c_, .int d_, .int e_] (mW G f)) (va_Qi (fun (r : Int32) (u : mS) => frD own f u.1 u.2 ∧ ((¬ (0 ≤ b.toInt ∧ b.toInt < 6 ∧ okA (kd, a, bb, c_, d_, e_)) ∧ r.toInt = -1 ∧ (∃ D2, CM G k u.1 n z D2 u.2 ∧ GC n T z A hg ver cq fe tms ca wl wh ac th sx ld tr gf D2)) ∨ (((0 ≤ b.toInt ∧ b.toInt < 6 ∧ okA (kd, a, bb, c_, d_, e_)) ∧ z b.toNatClampNeg = 32 ∧ r.toInt = -2 ∧ (∃ D2, CM G k u.1 n z D2 u.2 ∧ GC n T z A hg ver cq fe tms ca wl wh ac th sx ld tr gf D2)) ∨ ((0 ≤ b.toInt ∧ b.toInt < 6 ∧ okA (kd, a, bb, c_, d_, e_)) ∧ z b.toNatClampNeg < 32 ∧ r.toInt = z b.toNatClampNeg ∧ (∃ D2, CM G k u.1 n (va_up z b.toNatClampNeg (z b.toNatClampNeg + 1)) D2 u.2 ∧ GC n T (va_up z b.toNatClampNeg (z b.toNatClampNeg + 1)) (va_up A (32 * b.toNatClampNeg + z b.toNatClampNeg) (kd, a, bb, c_, d_, e_)) hg ver cq fe tms ca wl wh ac th sx ld tr gf D2))))) (fun (u : mS) t => mW G u.2 t) (mA G)) 1 6 (mA G) := by
  refine mMet [.ref (k 0), .int b, .int kd, .int a, .long bb, .int c_, .int d_, .int e_] (cc := cX5_act) (maxL := 10) (ret := (some .int)) (by decide) rfl (Nat.le_of_ble_eq_true rfl) ?_
  intro p e s m below meth c ls hx hb hr hml hts hown hlk hnm hC hH hl
  have hl : lv_has ls 10 [(0, .ref (k 0)), (1, .int b), (2, .int kd), (3, .int a), (4, .long bb), (6, .int c_), (7, .int d_), (8, .int e_)] := hl
  have hfr : frD own f own f := frD.rf
  have n24_ := hG.bs.1
  have hT3_ := hG.bs.2
  have h40_ := hG.h40
  have wl_ := hG.wr.1
  obtain ⟨cb_1, hl_1, hcb_1⟩ := hG.ln
  obtain ⟨⟨lb_1, st_1, nx_1, hq0_1, hlb_1⟩, htr_1, hld_⟩ := hG.lt
  have hlen_ := len_b htr_1.1
  have ol_ := ocn_le tr
  have tn_1 : (nI n).toInt = ((n : Nat) : Int) := nI_toInt (by omega)
  have th_1 : (nI hg).toInt = ((hg : Nat) : Int) := nI_toInt (by omega)
  have tw_1 : (nI wl.length).toInt = ((wl.length : Nat) : Int) := nI_toInt (by omega)
  have te_1 : (eD D 0).1.toInt = ((tr.length : Nat) : Int) := by rw [htr_1.2.1]; exact nI_toInt (by omega)
  refine lv_iload_n hx hb dX5_act_0 rfl (lv_at hl 1 rfl) ?_
  refine m_goi hH (va_runS (As := [.int b]) (rest := []) ⟨hx, hb, hml, hown, hts⟩ (c_X5_isBehaviour l G f b) (va_cwS 1 hts gX5_act_X5_isBehaviour rfl rfl rfl (by decide +kernel) ⟨Nat.le_of_ble_eq_true rfl, Nat.le_of_ble_eq_true rfl⟩) (m_preS hC hH) rfl rfl hl.1 rfl (lv_room (Nat.le_of_ble_eq_true rfl)) dX5_act_1 ⟨by show _ ≤ 1; omega, by show _ ≤ 6; omega⟩) (fun r_2 rho_4 f_3 H locs hw hH => ?_)
  obtain ⟨hu, hr_2⟩ := hw
  have hu : f_3 = f := hu
  rw [hu] at hH
  try dsimp only at hr_2
  refine lv_if_eq (tgt := 17) hx hb dX5_act_4 (by decide) (fun c_5 => ?_) (fun c_5 => ?_)
  · skip
    have ic_5 : (r_2.toInt : Int) = 0 := ic_eq rfl kI_0 c_5
    refine lv_iconst (v := (-1)) hx hb dX5_act_17 (by decide) ?_
    exact m_iret (v := (-1)) hx hb hr hlk hC hH own ⟨hfr, Or.inl ⟨fun q_ => by have := okA_rng6 q_.2.2; omega, kI_m1, _, hM, hG⟩⟩ (by omega) (by omega) dX5_act_18
  · skip
    have ic_5 : (r_2.toInt : Int) ≠ 0 := ic_ne rfl kI_0 c_5
    refine lv_iload_n hx hb dX5_act_7 rfl (lv_at hl 2 rfl) ?_
    refine lv_if_lt (tgt := 17) hx hb dX5_act_8 (by decide) (fun c_6 => ?_) (fun c_6 => ?_)
    · skip
      have ic_6 : (kd.toInt : Int) < 0 := ic_lt rfl kI_0 c_6
      refine lv_iconst (v := (-1)) hx hb dX5_act_17 (by decide) ?_
      exact m_iret (v := (-1)) hx hb hr hlk hC hH own ⟨hfr, Or.inl ⟨fun q_ => by have := okA_rng6 q_.2.2; omega, kI_m1, _, hM, hG⟩⟩ (by omega) (by omega) dX5_act_18
    · skip
      have ic_6 : (kd.toInt : Int) ≥ 0 := ic_nlt rfl kI_0 c_6
      refine lv_iload_n hx hb dX5_act_11 rfl (lv_at hl 2 rfl) ?_
      refine lv_bipush (v := 18) hx hb dX5_act_12 (by decide) ?_
      refine lv_icmp_lt (tgt := 19) hx hb dX5_act_14 (by decide) (fun c_7 => ?_) (fun c_7 => ?_)
      · skip
        have ic_7 : (kd.toInt : Int) < 18 := ic_lt rfl kI_18 c_7
        refine m_new (ci := 0) (fs := [.int 0, .int 0, .long 0, .int 0, .int 0, .int 0]) hx hb hC hH hts in_X5_act_X0 tyX0 tyX0_ok hown (hts (.classLink RX5 85 RX0) (by decide +kernel)) (hts (.instantiable RX0 6) (by decide +kernel)) (hts (.initialized RX0) (by decide +kernel)) rfl (by decide) (by show _ ≤ 1; omega) (by show _ ≤ 6; omega) dX5_act_19 (fun q_8 H hlt_q_8 hge_q_8 hno_q_8 hH => ?_)
        obtain ⟨f_9, ef_9⟩ : ∃ zz_ : mF, zz_ = va_up f q_8 (some (.inr (0, [.int 0, .int 0, .long 0, .int 0, .int 0, .int 0]))) := ⟨_, rfl⟩
        rw [← ef_9] at hH
        have hMo_ := hM
        have hfro_ := hfr
        have hM := hM.fresh hno_q_8 ef_9 (fun _ _ => rfl)
        have hfr := hfr.fresh hno_q_8 ef_9 (fun _ _ => rfl)
        have Fn_ : f_9 q_8 = some (.inr (0, [.int 0, .int 0, .long 0, .int 0, .int 0, .int 0])) := by rw [ef_9]; exact va_up_self _ _ _
        refine lv_dup hx hb dX5_act_22 rfl ?_
        refine lv_iload_n hx hb dX5_act_23 rfl (lv_at hl 2 rfl) ?_
        refine lv_iload_n hx hb dX5_act_24 rfl (lv_at hl 3 rfl) ?_
        refine lv_lload hx hb dX5_act_25 (lv_at hl 4 rfl) ?_
        refine lv_iload hx hb dX5_act_27 (lv_at hl 5 rfl) ?_
        refine lv_iload hx hb dX5_act_29 (lv_at hl 6 rfl) ?_
        refine lv_iload hx hb dX5_act_31 (lv_at hl 7 rfl) ?_
        refine m_gov hH (va_runI (As := [.int kd, .int a, .long bb, .int c_, .int d_, .int e_]) (rest := [.ref q_8]) ⟨hx, hb, hml, hown, hts⟩ (c_X0_init l G f_9 q_8 Fn_ kd a bb c_ d_ e_) (cwI 6 hts gX5_act_X0_init rfl rfl rfl (hts (.initialized RX0) (by decide +kernel)) (hts (.methodLink RX5 87 yX0_init) (by decide +kernel)) (hts (.instanceMethod yX0_init) (by decide +kernel)) rfl (by decide +kernel) ⟨Nat.le_of_ble_eq_true rfl, Nat.le_of_ble_eq_true rfl⟩) (m_preS hC hH) rfl rfl hl.1 rfl (lv_room (Nat.le_of_ble_eq_true rfl)) dX5_act_33 ⟨by show _ ≤ 1; omega, by show _ ≤ 6; omega⟩) (fun rho_12 f_11 H locs hw hH => ?_)
        have ef_11 : f_11 = va_up f_9 q_8 _ := hw
        have FA_ : f_11 q_8 = some (.inr (0, [.int kd, .int a, .long bb, .int c_, .int d_, .int e_])) := by rw [ef_11]; exact va_up_self _ _ _
        have e2f_11 : f_11 = va_up f q_8 (some (.inr (0, [.int kd, .int a, .long bb, .int c_, .int d_, .int e_]))) := by rw [ef_11, ef_9]; exact bx_uu _ _ _ _
        have hM : CM G k own n z D f_11 := hMo_.fresh hno_q_8 e2f_11 (fun _ _ => rfl)
        have hM2_ : CM G k (va_up own q_8 (5, q_8)) n z D f_11 := hMo_.fresh hno_q_8 e2f_11 (fun a_ h_ => va_up_ne _ _ h_)
        have hfr : frD own f own f_11 := hfro_.fresh hno_q_8 e2f_11 (fun _ _ => rfl)
        have hfr2_ : frD own f (va_up own q_8 (5, q_8)) f_11 := hfro_.fresh hno_q_8 e2f_11 (fun a_ h_ => va_up_ne _ _ h_)
        refine lv_astore (lv' := [(9, .ref q_8), (0, .ref (k 0)), (1, .int b), (2, .int kd), (3, .int a), (4, .long bb), (6, .int c_), (7, .int d_), (8, .int e_)]) hx hb dX5_act_36 hl (by decide) rfl (fun ls hl => ?_)
        refine lv_aload hx hb dX5_act_38 (lv_at hl 0 rfl) ?_
        refine m_goi hH (va_runV (As := []) (rest := []) ⟨hx, hb, hml, hown, hts⟩ (c_X0_isAsTold l G f_11 q_8 kd a bb c_ d_ e_ FA_ kd.toNatClampNeg (ic_cl (rfl : kd.toInt = _) (by omega) (by omega)) (ic_clN (rfl : kd.toInt = _) (by omega)).symm) (cwV 0 hts gX5_act_X0_isAsTold rfl rfl rfl (by decide +kernel) ⟨Nat.le_of_ble_eq_true rfl, Nat.le_of_ble_eq_true rfl⟩) (m_preV (ci := 0) hC hH FA_ rfl) rfl rfl hl.1 rfl (lv_room (Nat.le_of_ble_eq_true rfl)) dX5_act_40 ⟨by show _ ≤ 1; omega, by show _ ≤ 6; omega⟩) (fun r_13 rho_15 f_14 H locs hw hH => ?_)
        obtain ⟨hu, hr_13⟩ := hw
        have hu : f_14 = f_11 := hu
        rw [hu] at hH
        refine lv_if_eq (tgt := 60) hx hb dX5_act_43 (by decide) (fun c_16 => ?_) (fun c_16 => ?_)
        · skip
          have ic_16 : (r_13.toInt : Int) = 0 := ic_eq rfl kI_0 c_16
          refine lv_iconst (v := (-1)) hx hb dX5_act_60 (by decide) ?_
          exact m_iret (v := (-1)) hx hb hr hlk hC hH own ⟨hfr, Or.inl ⟨fun q_ => (hr_13.resolve_left (fun z_ => by omega)).2 q_.2.2, kI_m1, _, hM, hG⟩⟩ (by omega) (by omega) dX5_act_61
        · skip
          have ic_16 : (r_13.toInt : Int) ≠ 0 := ic_ne rfl kI_0 c_16
          have hok_ : okA (kd, a, bb, c_, d_, e_) := (hr_13.resolve_right (fun q => by omega)).2
          have cb0_ := ic_clN (rfl : b.toInt = _) (by omega)
          obtain ⟨own2_, eo_⟩ : ∃ w_ : tR, w_ = va_up own q_8 (5, q_8) := ⟨_, rfl⟩
          rw [← eo_] at hM2_ hfr2_
          have hM := hM2_.newA (q := q_8) (t0 := (kd, a, bb, c_, d_, e_)) FA_ (by rw [eo_]; exact va_up_self _ _ _)
          have hfr := hfr2_
          have an_ : AD D q_8 = none := by cases hq_ : AD D q_8 with | none => rfl | some t_ => exact absurd (hMo_.a0 _ _ hq_) (by rw [hno_q_8]; simp)
          have hG := hG.newA (q := q_8) (t := (kd, a, bb, c_, d_, e_)) an_
          have n24_ := hG.bs.1
          have hT3_ := hG.bs.2
          have h40_ := hG.h40
          have wl_ := hG.wr.1
          obtain ⟨cb_17, hl_17, hcb_17⟩ := hG.ln
          obtain ⟨⟨lb_17, st_17, nx_17, hq0_17, hlb_17⟩, htr_17, hld_⟩ := hG.lt
          have hlen_ := len_b htr_17.1
          have ol_ := ocn_le tr
          have tn_17 : (nI n).toInt = ((n : Nat) : Int) := nI_toInt (by omega)
          have th_17 : (nI hg).toInt = ((hg : Nat) : Int) := nI_toInt (by omega)
          have tw_17 : (nI wl.length).toInt = ((wl.length : Nat) : Int) := nI_toInt (by omega)
          have te_17 : (eD (dA D q_8 (kd, a, bb, c_, d_, e_)) 0).1.toInt = ((tr.length : Nat) : Int) := by rw [htr_17.2.1]; exact nI_toInt (by omega)
          have FA2_ := FA_
          refine lv_aload_n hx hb dX5_act_46 rfl (lv_at hl 1 rfl) ?_
          have F_18 : f_11 (k 0) = some (.inr (5, [.ref (k 1), .int (nI n), .int (nI hg), .ref (k 2), .ref (k 5), .ref (k 13), .ref (k 21), .int ca, .int fe, .int cb_17, .ref (k 3), .int (nI wl.length), .ref (k 4), .int sx])) := by have w_ := hM.c0; rw [hl_17] at w_; exact w_
          refine m_get (ci := 5) (v := .ref (k 2)) (C := RX5) (T := TX5) (N := 14) hx hb hC hH hts in_X5_act_X5 hown F_18 rfl 3 (by decide) (hts (.fieldLink RX5 17 "LazyState" "behaviours" "[LLazyState$Behaviour;") (by decide +kernel)) rfl dX5_act_47 ?_
          refine lv_iload_n hx hb dX5_act_50 rfl (lv_at hl 2 rfl) ?_
          have hg_19 := hM.c2
          refine m_aald hx hb hC hH 4 rfl hg_19 (vp_in_iff.mpr ⟨by omega, by omega⟩) dX5_act_51 ?_
          rw [hM.bq b.toNatClampNeg (by have := ic_clN (rfl : b.toInt = _) (by omega); omega)]
          refine lv_aload hx hb dX5_act_52 (lv_at hl 0 rfl) ?_
          have F_23 := hM.b0 b.toNatClampNeg (by have := ic_clN (rfl : b.toInt = _) (by omega); omega)
          refine m_goi hH (va_runV (As := [.ref q_8]) (rest := []) ⟨hx, hb, hml, hown, hts⟩ (c_X1_append l G k own2_ n z (dA D q_8 (kd, a, bb, c_, d_, e_)) f_11 hM b.toNatClampNeg (by omega) (hG.z32 _) q_8 (kd, a, bb, c_, d_, e_) (va_up_self _ _ _)) (cwV 1 hts gX5_act_X1_append rfl rfl rfl (by decide +kernel) ⟨Nat.le_of_ble_eq_true rfl, Nat.le_of_ble_eq_true rfl⟩) (m_preV (ci := 1) hC hH F_23 rfl) rfl rfl hl.1 rfl (lv_room (Nat.le_of_ble_eq_true rfl)) dX5_act_54 ⟨by show _ ≤ 1; omega, by show _ ≤ 6; omega⟩) (fun r_20 rho_22 f_21 H locs hw hH => ?_)
          obtain ⟨hfr1, hr_20⟩ := hw
          have hfr1 : frD own2_ f_11 rho_22 f_21 := hfr1
          have hfr := hfr.trans hfr1
          try dsimp only at hr_20
          refine lv_goto (tgt := 61) hx hb dX5_act_57 (by decide) ?_
          exact m_iret (v := r_20) hx hb hr hlk hC hH rho_22 ⟨hfr, Or.inr (hr_20.elim (fun q_ => Or.inl ⟨⟨by omega, by omega, hok_⟩, q_.1, q_.2.1, _, q_.2.2, hG⟩) (fun q_ => Or.inr ⟨⟨by omega, by omega, hok_⟩, q_.1, q_.2.1, _, q_.2.2, hG.app (by omega) q_.1 hok_ (va_up_self _ _ _)⟩))⟩ (by omega) (by omega) dX5_act_61
      · skip
        have ic_7 : (kd.toInt : Int) ≥ 18 := ic_nlt rfl kI_18 c_7
        refine lv_iconst (v := (-1)) hx hb dX5_act_17 (by decide) ?_
        exact m_iret (v := (-1)) hx hb hr hlk hC hH own ⟨hfr, Or.inl ⟨fun q_ => by have := okA_rng6 q_.2.2; omega, kI_m1, _, hM, hG⟩⟩ (by omega) (by omega) dX5_act_18
