set_option maxHeartbeats 4000000 in
set_option maxRecDepth 100000 in
theorem c_X6_shift (l : Launch) (G : mG) (h : Nat → Nat) (n : Nat) (T z : Nat → Nat) (A : Nat → tA) (hg : Nat) (ver : Nat → Nat → tB) (c0q : Nat → Bool) (fe0 : Int32) (tms : Nat → Int32) (ca : Int32) (wl : List Nat) (wh : Int32) (ac : Nat) (sx : Int32) (σ : tS) (f : mF) (hI : FM G h n T z A hg ver (cqL c0q σ) (feL fe0 c0q σ) tms ca wl wh ac 0 sx σ f) (hn0 : 0 < n) (hd : Int32) (jj : Int64) (g_ q_ : Int32) (v : Int64) (Y : Nat) (hvY : v = vaS σ Y) (hh_ : 0 ≤ hd.toInt ∧ hd.toInt < 4) (hj0 : 0 ≤ jj.toInt ∧ jj.toInt < 8) (hg0 : 0 ≤ g_.toInt ∧ g_.toInt < 4) (hq0 : 0 ≤ q_.toInt ∧ q_.toInt < 8) : Met l yX6_shift wsX6_shift ({ frames := 3, cells := 0, slots := 0, locals := 71 }) (va_Pc [.ref (h 0), .int hd, .long jj, .int g_, .int q_, .long v] (mW G f)) (va_Qv (fun (u : mS) => frM h f u.2 ∧ FM G h n T z A hg ver (cqL c0q ((pShf T σ hd.toNatClampNeg jj.toInt.toNat g_.toNatClampNeg q_.toNatClampNeg Y).2)) (feL fe0 c0q ((pShf T σ hd.toNatClampNeg jj.toInt.toNat g_.toNatClampNeg q_.toNatClampNeg Y).2)) tms ca wl wh ac ((pShf T σ hd.toNatClampNeg jj.toInt.toNat g_.toNatClampNeg q_.toNatClampNeg Y).1) sx ((pShf T σ hd.toNatClampNeg jj.toInt.toNat g_.toNatClampNeg q_.toNatClampNeg Y).2) u.2) (fun (u : mS) t => mW G u.2 t) (mA G)) 0 0 (mA G) := by
  refine mMet [.ref (h 0), .int hd, .long jj, .int g_, .int q_, .long v] (cc := cX6_shift) (maxL := 13) (ret := none) (by decide) rfl (Nat.le_of_ble_eq_true rfl) ?_
  intro p e s m below meth c ls hx hb hr hml hts hown hlk hnm hC hH hl
  have hl : lv_has ls 13 [(0, .ref (h 0)), (1, .int hd), (2, .long jj), (4, .int g_), (5, .int q_), (6, .long v)] := hl
  have hI0_ := hI
  have hfr : frM h f f := frM.rf
  have cl_hd := ic_clN (rfl : hd.toInt = _) (by omega)
  have cl_g_ := ic_clN (rfl : g_.toInt = _) (by omega)
  have cl_q_ := ic_clN (rfl : q_.toInt = _) (by omega)
  obtain ⟨I_1, J_1, hM, hR, hac_1, hth_1⟩ := hI
  have hg_1 := hR.hg40
  have n24_1 := hR.n24
  have tl_1 := len_b hR.ok.2.2.1
  have wl_1 := hR.wl192
  have hgI_1 : (nI hg).toInt = ((hg : Nat) : Int) := nI_toInt (by omega)
  have tmI_1 : (nI ((trS σ).length)).toInt = (((trS σ).length : Nat) : Int) := nI_toInt (by omega)
  have wmI_1 : (nI wl.length).toInt = ((wl.length : Nat) : Int) := nI_toInt (by omega)
  have acI_1 : (nI ac).toInt = ((ac : Nat) : Int) := nI_toInt (by omega)
  have thI_1 : (nI 0).toInt = ((0 : Nat) : Int) := nI_toInt (by omega)
  have nIn_1 : (nI n).toInt = ((n : Nat) : Int) := nI_toInt (by omega)
  have ok0_ := hR.ok
  have n24_ := hR.n24
  have cj_ : ((jj.toInt.toNat : Nat) : Int) = jj.toInt := by omega
  refine lv_aload_n hx hb dX6_shift_0 rfl (lv_at hl 0 rfl) ?_
  refine lv_iload_n hx hb dX6_shift_1 rfl (lv_at hl 1 rfl) ?_
  refine lv_lload_n hx hb dX6_shift_2 rfl (lv_at hl 2 rfl) ?_
  refine lv_iconst (v := 2) hx hb dX6_shift_3 (by decide) ?_
  have F_2 : f (h 0) = some (.inr (6, [.int (nI n), .ref (h 1), .int (nI hg), .ref (h 3), .ref (h 4), .ref (h 5), .ref (h 6), .int (feL fe0 c0q σ), .ref (h 8), .ref (h 9), .ref (h 10), .ref (h 11), .ref (h 12), .ref (h 13), .ref (h 14), .ref (h 15), .int ca, .long (gfS σ), .int wh, .int (nI ((trS σ).length)), .ref (h 20), .ref (h 21), .int (nI wl.length), .ref (h 23), .ref (h 24), .int (nI ac), .ref (h 26), .ref (h 27), .int (nI 0), .int sx])) := hM.1
  have hI : FM G h n T z A hg ver (cqL c0q σ) (feL fe0 c0q σ) tms ca wl wh ac 0 sx σ f := ⟨_, _, hM, hR, hac_1, hth_1⟩
  refine m_goi hH (va_runV (As := [.int hd, .long jj, .int 2]) (rest := []) ⟨hx, hb, hml, hown, hts⟩ (c_X6_readLeaf l G h n T z A hg ver c0q fe0 tms ca wl wh ac sx σ f hI hn0 hd jj 2 (by have := kI_2; omega) (by have := kI_2; omega) (by have := kI_2; omega)) (cwV 3 hts gX6_shift_X6_readLeaf rfl rfl rfl (by decide +kernel) ⟨Nat.le_of_ble_eq_true rfl, Nat.le_of_ble_eq_true rfl⟩) (m_preV (ci := 6) hC hH F_2 rfl) rfl rfl hl.1 rfl (lv_room (Nat.le_of_ble_eq_true rfl)) dX6_shift_4 ⟨Nat.le_of_ble_eq_true rfl, Nat.le_of_ble_eq_true rfl⟩) (fun r_3 rho_5 f_4 H locs hw hH => ?_)
  obtain ⟨hfr1, hI, hr_3⟩ := hw
  have hfr1 : frM h f f_4 := hfr1
  have hfr := hfr.trans hfr1
  have hI : FM G h n T z A hg ver (cqL c0q ((thn (ask T σ hd.toNatClampNeg jj.toInt.toNat ((2 : Int32).toNatClampNeg + 1)) (fun s1 => (0, rdL s1 hd.toNatClampNeg jj.toInt.toNat))).2)) (feL fe0 c0q ((thn (ask T σ hd.toNatClampNeg jj.toInt.toNat ((2 : Int32).toNatClampNeg + 1)) (fun s1 => (0, rdL s1 hd.toNatClampNeg jj.toInt.toNat))).2)) tms ca wl wh ac ((ask T σ hd.toNatClampNeg jj.toInt.toNat ((2 : Int32).toNatClampNeg + 1)).1) sx ((thn (ask T σ hd.toNatClampNeg jj.toInt.toNat ((2 : Int32).toNatClampNeg + 1)) (fun s1 => (0, rdL s1 hd.toNatClampNeg jj.toInt.toNat))).2) f_4 := hI
  try dsimp only at hr_3
  rw [(show (2 : Int32).toNatClampNeg + 1 = 3 from rfl)] at hI hr_3
  by_cases a01 : (ask T σ hd.toNatClampNeg jj.toInt.toNat 3).1 = 0
  · skip
    have rv1 := hr_3.1 a01
    obtain ⟨au11, au21, au31, au41, au51⟩ := ask_use hR.ok (by omega) a01
    have eho1 : hob σ hd.toNatClampNeg = hob (ask T σ hd.toNatClampNeg jj.toInt.toNat 3).2 hd.toNatClampNeg := hob_ask.symm
    rw [eho1] at rv1
    rw [thn_0 a01] at hI
    have hI : FM G h n T z A hg ver (cqL c0q (rdL (ask T σ hd.toNatClampNeg jj.toInt.toNat 3).2 hd.toNatClampNeg jj.toInt.toNat)) (feL fe0 c0q (rdL (ask T σ hd.toNatClampNeg jj.toInt.toNat 3).2 hd.toNatClampNeg jj.toInt.toNat)) tms ca wl wh ac ((ask T σ hd.toNatClampNeg jj.toInt.toNat 3).1) sx (rdL (ask T σ hd.toNatClampNeg jj.toInt.toNat 3).2 hd.toNatClampNeg jj.toInt.toNat) f_4 := hI
    rw [a01] at hI
    obtain ⟨s1_, es1_⟩ : ∃ zs_ : tS, zs_ = (ask T σ hd.toNatClampNeg jj.toInt.toNat 3).2 := ⟨_, rfl⟩
    rw [← es1_] at hI au11 au21 au31 au41 au51 rv1
    have hI : FM G h n T z A hg ver (cqL c0q (rdL s1_ hd.toNatClampNeg jj.toInt.toNat)) (feL fe0 c0q (rdL s1_ hd.toNatClampNeg jj.toInt.toNat)) tms ca wl wh ac 0 sx (rdL s1_ hd.toNatClampNeg jj.toInt.toNat) f_4 := hI
    obtain ⟨I_6, J_6, hM, hR, hac_6, hth_6⟩ := hI
    have hg_6 := hR.hg40
    have n24_6 := hR.n24
    have tl_6 := len_b hR.ok.2.2.1
    have wl_6 := hR.wl192
    have hgI_6 : (nI hg).toInt = ((hg : Nat) : Int) := nI_toInt (by omega)
    have tmI_6 : (nI ((trS (rdL s1_ hd.toNatClampNeg jj.toInt.toNat)).length)).toInt = (((trS (rdL s1_ hd.toNatClampNeg jj.toInt.toNat)).length : Nat) : Int) := nI_toInt (by omega)
    have wmI_6 : (nI wl.length).toInt = ((wl.length : Nat) : Int) := nI_toInt (by omega)
    have acI_6 : (nI ac).toInt = ((ac : Nat) : Int) := nI_toInt (by omega)
    have thI_6 : (nI 0).toInt = ((0 : Nat) : Int) := nI_toInt (by omega)
    have nIn_6 : (nI n).toInt = ((n : Nat) : Int) := nI_toInt (by omega)
    refine lv_istore (lv' := [(8, .int r_3), (0, .ref (h 0)), (1, .int hd), (2, .long jj), (4, .int g_), (5, .int q_), (6, .long v)]) hx hb dX6_shift_7 hl (by decide) rfl (fun ls hl => ?_)
    refine lv_iload hx hb dX6_shift_9 (lv_at hl 0 rfl) ?_
    refine lv_if_ge (tgt := 18) hx hb dX6_shift_11 (by decide) (fun c_7 => ?_) (fun c_7 => ?_)
    · skip
      have ic_7 : (0 : Int) ≤ r_3.toInt := ic_le kI_0 rfl c_7
      refine lv_aload_n hx hb dX6_shift_18 rfl (lv_at hl 1 rfl) ?_
      refine lv_iload hx hb dX6_shift_19 (lv_at hl 4 rfl) ?_
      refine lv_iload hx hb dX6_shift_21 (lv_at hl 5 rfl) ?_
      refine lv_i2l hx hb dX6_shift_23 rfl ?_
      refine lv_topl (fun y_8 ey_8 => ?_)
      have iy_8 : y_8.toInt = q_.toInt := lc_i2l ey_8 rfl
      have gy_8 := ic_rng q_
      refine lv_iconst (v := 2) hx hb dX6_shift_24 (by decide) ?_
      have F_9 : f_4 (h 0) = some (.inr (6, [.int (nI n), .ref (h 1), .int (nI hg), .ref (h 3), .ref (h 4), .ref (h 5), .ref (h 6), .int (feL fe0 c0q (rdL s1_ hd.toNatClampNeg jj.toInt.toNat)), .ref (h 8), .ref (h 9), .ref (h 10), .ref (h 11), .ref (h 12), .ref (h 13), .ref (h 14), .ref (h 15), .int ca, .long (gfS (rdL s1_ hd.toNatClampNeg jj.toInt.toNat)), .int wh, .int (nI ((trS (rdL s1_ hd.toNatClampNeg jj.toInt.toNat)).length)), .ref (h 20), .ref (h 21), .int (nI wl.length), .ref (h 23), .ref (h 24), .int (nI ac), .ref (h 26), .ref (h 27), .int (nI 0), .int sx])) := hM.1
      have hI : FM G h n T z A hg ver (cqL c0q (rdL s1_ hd.toNatClampNeg jj.toInt.toNat)) (feL fe0 c0q (rdL s1_ hd.toNatClampNeg jj.toInt.toNat)) tms ca wl wh ac 0 sx (rdL s1_ hd.toNatClampNeg jj.toInt.toNat) f_4 := ⟨_, _, hM, hR, hac_6, hth_6⟩
      refine m_goi hH (va_runV (As := [.int g_, .long y_8, .int 2]) (rest := []) ⟨hx, hb, hml, hown, hts⟩ (c_X6_readLeaf l G h n T z A hg ver c0q fe0 tms ca wl wh ac sx (rdL s1_ hd.toNatClampNeg jj.toInt.toNat) f_4 hI hn0 g_ y_8 2 (by have := kI_2; omega) (by have := kI_2; omega) (by have := kI_2; omega)) (cwV 3 hts gX6_shift_X6_readLeaf rfl rfl rfl (by decide +kernel) ⟨Nat.le_of_ble_eq_true rfl, Nat.le_of_ble_eq_true rfl⟩) (m_preV (ci := 6) hC hH F_9 rfl) rfl rfl hl.1 rfl (lv_room (Nat.le_of_ble_eq_true rfl)) dX6_shift_25 ⟨Nat.le_of_ble_eq_true rfl, Nat.le_of_ble_eq_true rfl⟩) (fun r_10 rho_12 f_11 H locs hw hH => ?_)
      obtain ⟨hfr1, hI, hr_10⟩ := hw
      have hfr1 : frM h f_4 f_11 := hfr1
      have hfr := hfr.trans hfr1
      have hI : FM G h n T z A hg ver (cqL c0q ((thn (ask T (rdL s1_ hd.toNatClampNeg jj.toInt.toNat) g_.toNatClampNeg y_8.toInt.toNat ((2 : Int32).toNatClampNeg + 1)) (fun s1 => (0, rdL s1 g_.toNatClampNeg y_8.toInt.toNat))).2)) (feL fe0 c0q ((thn (ask T (rdL s1_ hd.toNatClampNeg jj.toInt.toNat) g_.toNatClampNeg y_8.toInt.toNat ((2 : Int32).toNatClampNeg + 1)) (fun s1 => (0, rdL s1 g_.toNatClampNeg y_8.toInt.toNat))).2)) tms ca wl wh ac ((ask T (rdL s1_ hd.toNatClampNeg jj.toInt.toNat) g_.toNatClampNeg y_8.toInt.toNat ((2 : Int32).toNatClampNeg + 1)).1) sx ((thn (ask T (rdL s1_ hd.toNatClampNeg jj.toInt.toNat) g_.toNatClampNeg y_8.toInt.toNat ((2 : Int32).toNatClampNeg + 1)) (fun s1 => (0, rdL s1 g_.toNatClampNeg y_8.toInt.toNat))).2) f_11 := hI
      try dsimp only at hr_10
      rw [(show y_8.toInt.toNat = q_.toNatClampNeg from (by show y_8.toInt.toNat = q_.toInt.toNat; omega)), (show (2 : Int32).toNatClampNeg + 1 = 3 from rfl)] at hI hr_10
      by_cases a02 : (ask T (rdL s1_ hd.toNatClampNeg jj.toInt.toNat) g_.toNatClampNeg q_.toNatClampNeg 3).1 = 0
      · skip
        have rv2 := hr_10.1 a02
        obtain ⟨au12, au22, au32, au42, au52⟩ := ask_use hR.ok (by omega) a02
        have eho2 : hob (rdL s1_ hd.toNatClampNeg jj.toInt.toNat) g_.toNatClampNeg = hob (ask T (rdL s1_ hd.toNatClampNeg jj.toInt.toNat) g_.toNatClampNeg q_.toNatClampNeg 3).2 g_.toNatClampNeg := hob_ask.symm
        rw [eho2] at rv2
        rw [thn_0 a02] at hI
        have hI : FM G h n T z A hg ver (cqL c0q (rdL (ask T (rdL s1_ hd.toNatClampNeg jj.toInt.toNat) g_.toNatClampNeg q_.toNatClampNeg 3).2 g_.toNatClampNeg q_.toNatClampNeg)) (feL fe0 c0q (rdL (ask T (rdL s1_ hd.toNatClampNeg jj.toInt.toNat) g_.toNatClampNeg q_.toNatClampNeg 3).2 g_.toNatClampNeg q_.toNatClampNeg)) tms ca wl wh ac ((ask T (rdL s1_ hd.toNatClampNeg jj.toInt.toNat) g_.toNatClampNeg q_.toNatClampNeg 3).1) sx (rdL (ask T (rdL s1_ hd.toNatClampNeg jj.toInt.toNat) g_.toNatClampNeg q_.toNatClampNeg 3).2 g_.toNatClampNeg q_.toNatClampNeg) f_11 := hI
        rw [a02] at hI
        obtain ⟨s2_, es2_⟩ : ∃ zs_ : tS, zs_ = (ask T (rdL s1_ hd.toNatClampNeg jj.toInt.toNat) g_.toNatClampNeg q_.toNatClampNeg 3).2 := ⟨_, rfl⟩
        rw [← es2_] at hI au12 au22 au32 au42 au52 rv2
        have hI : FM G h n T z A hg ver (cqL c0q (rdL s2_ g_.toNatClampNeg q_.toNatClampNeg)) (feL fe0 c0q (rdL s2_ g_.toNatClampNeg q_.toNatClampNeg)) tms ca wl wh ac 0 sx (rdL s2_ g_.toNatClampNeg q_.toNatClampNeg) f_11 := hI
        obtain ⟨I_13, J_13, hM, hR, hac_13, hth_13⟩ := hI
        have hg_13 := hR.hg40
        have n24_13 := hR.n24
        have tl_13 := len_b hR.ok.2.2.1
        have wl_13 := hR.wl192
        have hgI_13 : (nI hg).toInt = ((hg : Nat) : Int) := nI_toInt (by omega)
        have tmI_13 : (nI ((trS (rdL s2_ g_.toNatClampNeg q_.toNatClampNeg)).length)).toInt = (((trS (rdL s2_ g_.toNatClampNeg q_.toNatClampNeg)).length : Nat) : Int) := nI_toInt (by omega)
        have wmI_13 : (nI wl.length).toInt = ((wl.length : Nat) : Int) := nI_toInt (by omega)
        have acI_13 : (nI ac).toInt = ((ac : Nat) : Int) := nI_toInt (by omega)
        have thI_13 : (nI 0).toInt = ((0 : Nat) : Int) := nI_toInt (by omega)
        have nIn_13 : (nI n).toInt = ((n : Nat) : Int) := nI_toInt (by omega)
        refine lv_istore (lv' := [(9, .int r_10), (8, .int r_3), (0, .ref (h 0)), (1, .int hd), (2, .long jj), (4, .int g_), (5, .int q_), (6, .long v)]) hx hb dX6_shift_28 hl (by decide) rfl (fun ls hl => ?_)
        refine lv_iload hx hb dX6_shift_30 (lv_at hl 0 rfl) ?_
        refine lv_if_ge (tgt := 36) hx hb dX6_shift_32 (by decide) (fun c_14 => ?_) (fun c_14 => ?_)
        · skip
          have ic_14 : (0 : Int) ≤ r_10.toInt := ic_le kI_0 rfl c_14
          have ha12_ : haS s2_ = haS s1_ := by rw [es2_]; exact ask_ha
          have ho1_ : hob s2_ hd.toNatClampNeg = hob s1_ hd.toNatClampNeg := by unfold hob; rw [ha12_]
          rw [← ho1_] at rv1 au21 au31
          have vv_ : v = vaS s2_ Y := by rw [es2_, ask_va]; show v = vaS s1_ Y; rw [es1_, ask_va]; exact hvY
          have k1_ := ((hR.ok.1 (hob s2_ hd.toNatClampNeg) au21 jj.toInt.toNat (by omega)).2.2 au31).1
          have k2_ := ((hR.ok.1 (hob s2_ g_.toNatClampNeg) au22 q_.toNatClampNeg (by omega)).2.2 au32).1
          have k1_ : ((bdS s2_ (hob s2_ hd.toNatClampNeg)).1 jj.toInt.toNat).toInt = -3 ∨ 0 ≤ ((bdS s2_ (hob s2_ hd.toNatClampNeg)).1 jj.toInt.toNat).toInt ∧ ((bdS s2_ (hob s2_ hd.toNatClampNeg)).1 jj.toInt.toNat).toInt ≤ 8 := k1_
          have k2_ : ((bdS s2_ (hob s2_ g_.toNatClampNeg)).1 q_.toNatClampNeg).toInt = -3 ∨ 0 ≤ ((bdS s2_ (hob s2_ g_.toNatClampNeg)).1 q_.toNatClampNeg).toInt ∧ ((bdS s2_ (hob s2_ g_.toNatClampNeg)).1 q_.toNatClampNeg).toInt ≤ 8 := k2_
          refine lv_aload_n hx hb dX6_shift_36 rfl (lv_at hl 2 rfl) ?_
          have F_15 : f_11 (h 0) = some (.inr (6, [.int (nI n), .ref (h 1), .int (nI hg), .ref (h 3), .ref (h 4), .ref (h 5), .ref (h 6), .int (feL fe0 c0q (rdL s2_ g_.toNatClampNeg q_.toNatClampNeg)), .ref (h 8), .ref (h 9), .ref (h 10), .ref (h 11), .ref (h 12), .ref (h 13), .ref (h 14), .ref (h 15), .int ca, .long (gfS (rdL s2_ g_.toNatClampNeg q_.toNatClampNeg)), .int wh, .int (nI ((trS (rdL s2_ g_.toNatClampNeg q_.toNatClampNeg)).length)), .ref (h 20), .ref (h 21), .int (nI wl.length), .ref (h 23), .ref (h 24), .int (nI ac), .ref (h 26), .ref (h 27), .int (nI 0), .int sx])) := hM.1
          refine m_get (ci := 6) (v := .ref (h 4)) (C := RX6) (T := TX6) (N := 30) hx hb hC hH hts in_X6_shift_X6 hown F_15 rfl 4 (by decide) (hts (.fieldLink RX6 17 "LazyStateModel" "sizes" "[I") (by decide +kernel)) rfl dX6_shift_37 ?_
          refine lv_iload hx hb dX6_shift_40 (lv_at hl 1 rfl) ?_
          refine m_goi hH (va_runS (As := [.int r_3]) (rest := [.ref (h 4)]) ⟨hx, hb, hml, hown, hts⟩ (c_X6_at l G f_11 r_3 (by exact ⟨by omega, by omega⟩)) (va_cwS 1 hts gX6_shift_X6_at rfl rfl rfl (by decide +kernel) ⟨Nat.le_of_ble_eq_true rfl, Nat.le_of_ble_eq_true rfl⟩) (m_preS hC hH) rfl rfl hl.1 rfl (lv_room (Nat.le_of_ble_eq_true rfl)) dX6_shift_42 ⟨Nat.le_of_ble_eq_true rfl, Nat.le_of_ble_eq_true rfl⟩) (fun r_16 rho_18 f_17 H locs hw hH => ?_)
          obtain ⟨hu, hr_16⟩ := hw
          have hu : f_17 = f_11 := hu
          rw [hu] at hH
          have hg_19 : f_11 (h 4) = some (.inl (gk G 0, 8064, .inl (I_13 4))) := hM.2.1 4 (by decide) rfl
          refine m_iald hx hb hC hH hg_19 (vp_in_iff.mpr ⟨by omega, by omega⟩) dX6_shift_45 ?_
          refine lv_topi (fun x_20 ex_20 => ?_)
          have nn_21 : r_16.toNatClampNeg = 192 * 41 + 8 * hob s2_ hd.toNatClampNeg + jj.toInt.toNat := by have := ic_clN (rfl : r_16.toInt = _) (by omega); omega
          have sz1_ : x_20.toInt = ((bdS s2_ (hob s2_ hd.toNatClampNeg)).1 jj.toInt.toNat).toInt := by rw [ex_20, nn_21]; exact hR.gsz au21 (by omega) au31
          refine lv_istore (lv' := [(10, .int x_20), (9, .int r_10), (8, .int r_3), (0, .ref (h 0)), (1, .int hd), (2, .long jj), (4, .int g_), (5, .int q_), (6, .long v)]) hx hb dX6_shift_46 hl (by decide) rfl (fun ls hl => ?_)
          refine lv_aload_n hx hb dX6_shift_48 rfl (lv_at hl 3 rfl) ?_
          refine m_get (ci := 6) (v := .ref (h 4)) (C := RX6) (T := TX6) (N := 30) hx hb hC hH hts in_X6_shift_X6 hown F_15 rfl 4 (by decide) (hts (.fieldLink RX6 17 "LazyStateModel" "sizes" "[I") (by decide +kernel)) rfl dX6_shift_49 ?_
          refine lv_iload hx hb dX6_shift_52 (lv_at hl 1 rfl) ?_
          refine m_goi hH (va_runS (As := [.int r_10]) (rest := [.ref (h 4)]) ⟨hx, hb, hml, hown, hts⟩ (c_X6_at l G f_11 r_10 (by exact ⟨by omega, by omega⟩)) (va_cwS 1 hts gX6_shift_X6_at rfl rfl rfl (by decide +kernel) ⟨Nat.le_of_ble_eq_true rfl, Nat.le_of_ble_eq_true rfl⟩) (m_preS hC hH) rfl rfl hl.1 rfl (lv_room (Nat.le_of_ble_eq_true rfl)) dX6_shift_54 ⟨Nat.le_of_ble_eq_true rfl, Nat.le_of_ble_eq_true rfl⟩) (fun r_22 rho_24 f_23 H locs hw hH => ?_)
          obtain ⟨hu, hr_22⟩ := hw
          have hu : f_23 = f_11 := hu
          rw [hu] at hH
          refine m_iald hx hb hC hH hg_19 (vp_in_iff.mpr ⟨by omega, by omega⟩) dX6_shift_57 ?_
          refine lv_topi (fun x_25 ex_25 => ?_)
          have nn_26 : r_22.toNatClampNeg = 192 * 41 + 8 * hob s2_ g_.toNatClampNeg + q_.toNatClampNeg := by have := ic_clN (rfl : r_22.toInt = _) (by omega); omega
          have sz2_ : x_25.toInt = ((bdS s2_ (hob s2_ g_.toNatClampNeg)).1 q_.toNatClampNeg).toInt := by rw [ex_25, nn_26]; exact hR.gsz au22 (by omega) au32
          refine lv_istore (lv' := [(11, .int x_25), (10, .int x_20), (9, .int r_10), (8, .int r_3), (0, .ref (h 0)), (1, .int hd), (2, .long jj), (4, .int g_), (5, .int q_), (6, .long v)]) hx hb dX6_shift_58 hl (by decide) rfl (fun ls hl => ?_)
          refine lv_iload hx hb dX6_shift_60 (lv_at hl 1 rfl) ?_
          refine lv_bipush (v := (-3)) hx hb dX6_shift_62 (by decide) ?_
          refine lv_icmp_eq (tgt := 74) hx hb dX6_shift_64 (by decide) (fun c_27 => ?_) (fun c_27 => ?_)
          · skip
            have ic_27 : (x_20.toInt : Int) = (-3) := ic_eq rfl kI_m3 c_27
            have sr_ : (shR (bdS s2_ (hob s2_ hd.toNatClampNeg)) (bdS s2_ (hob s2_ g_.toNatClampNeg)) jj.toInt.toNat q_.toNatClampNeg (vaS s2_ Y)) = 1 := shR_1 (by omega)
            refine lv_aload_n hx hb dX6_shift_74 rfl (lv_at hl 4 rfl) ?_
            refine lv_iconst (v := 1) hx hb dX6_shift_75 (by decide) ?_
            refine m_put (ci := 6) (v := .int 1) (C := RX6) (T := TX6) (N := 30) hx hb hC hH hts in_X6_shift_X6 tyX6 tyX6_ok nmX6 hown F_15 rfl 28 (by decide) (hts (.fieldLink RX6 155 "LazyStateModel" "threw" "I") (by decide +kernel)) rfl rfl rfl (Nat.le_of_ble_eq_true rfl) dX6_shift_76 (fun H locs hH => ?_)
            have hH : mH G s (va_up f_11 (h 0) (some (.inr (6, [.int (nI n), .ref (h 1), .int (nI hg), .ref (h 3), .ref (h 4), .ref (h 5), .ref (h 6), .int (feL fe0 c0q (rdL s2_ g_.toNatClampNeg q_.toNatClampNeg)), .ref (h 8), .ref (h 9), .ref (h 10), .ref (h 11), .ref (h 12), .ref (h 13), .ref (h 14), .ref (h 15), .int ca, .long (gfS (rdL s2_ g_.toNatClampNeg q_.toNatClampNeg)), .int wh, .int (nI ((trS (rdL s2_ g_.toNatClampNeg q_.toNatClampNeg)).length)), .ref (h 20), .ref (h 21), .int (nI wl.length), .ref (h 23), .ref (h 24), .int (nI ac), .ref (h 26), .ref (h 27), .int 1, .int sx])))) H locs := hH
            obtain ⟨f_28, ef_28⟩ : ∃ zz_ : mF, zz_ = va_up f_11 (h 0) (some (.inr (6, [.int (nI n), .ref (h 1), .int (nI hg), .ref (h 3), .ref (h 4), .ref (h 5), .ref (h 6), .int (feL fe0 c0q (rdL s2_ g_.toNatClampNeg q_.toNatClampNeg)), .ref (h 8), .ref (h 9), .ref (h 10), .ref (h 11), .ref (h 12), .ref (h 13), .ref (h 14), .ref (h 15), .int ca, .long (gfS (rdL s2_ g_.toNatClampNeg q_.toNatClampNeg)), .int wh, .int (nI ((trS (rdL s2_ g_.toNatClampNeg q_.toNatClampNeg)).length)), .ref (h 20), .ref (h 21), .int (nI wl.length), .ref (h 23), .ref (h 24), .int (nI ac), .ref (h 26), .ref (h 27), .int 1, .int sx]))) := ⟨_, rfl⟩
            rw [← ef_28] at hH
            have hM : MEM G h n (nI hg, (feL fe0 c0q (rdL s2_ g_.toNatClampNeg q_.toNatClampNeg)), ca, (gfS (rdL s2_ g_.toNatClampNeg q_.toNatClampNeg)), wh, nI ((trS (rdL s2_ g_.toNatClampNeg q_.toNatClampNeg)).length), nI wl.length, nI ac, 1, sx) I_13 J_13 f_28 := hM.set0 ef_28
            have hfr := hfr.up 0 (by decide) ef_28
            exact m_vret hx hb hr hlk hC hH (fun _ => (0, 0)) ⟨hfr, by rw [show (pShf T σ hd.toNatClampNeg jj.toInt.toNat g_.toNatClampNeg q_.toNatClampNeg Y) = thn (ask T (rdL s1_ hd.toNatClampNeg jj.toInt.toNat) g_.toNatClampNeg q_.toNatClampNeg 3) (fun s2 => thn (shR (bdS s2 (hob s2 hd.toNatClampNeg)) (bdS s2 (hob s2 g_.toNatClampNeg)) jj.toInt.toNat q_.toNatClampNeg (vaS s2 Y), rdL s2 g_.toNatClampNeg q_.toNatClampNeg) (fun s3 => (0, sBd (chL s3 g_.toNatClampNeg q_.toNatClampNeg) (hob s3 g_.toNatClampNeg) (cpyM (bdS s3 (hob s3 hd.toNatClampNeg)) (bdS s3 (hob s3 g_.toNatClampNeg)) jj.toInt.toNat q_.toNatClampNeg (vaS s3 Y).toInt.toNat)))) from (thn_0 a01).trans (by rw [← es1_]), thn_0 a02, ← es2_, thn_1 (by show (shR (bdS s2_ (hob s2_ hd.toNatClampNeg)) (bdS s2_ (hob s2_ g_.toNatClampNeg)) jj.toInt.toNat q_.toNatClampNeg (vaS s2_ Y)) ≠ 0; rw [sr_]; decide), sr_]; exact ⟨_, _, hM, hR, hac_13, by omega⟩⟩ (Nat.le_of_ble_eq_true rfl) (Nat.le_of_ble_eq_true rfl) dX6_shift_79
          · skip
            have ic_27 : (x_20.toInt : Int) ≠ (-3) := ic_ne rfl kI_m3 c_27
            refine lv_iload hx hb dX6_shift_67 (lv_at hl 0 rfl) ?_
            refine lv_bipush (v := (-3)) hx hb dX6_shift_69 (by decide) ?_
            refine lv_icmp_ne (tgt := 80) hx hb dX6_shift_71 (by decide) (fun c_29 => ?_) (fun c_29 => ?_)
            · skip
              have ic_29 : (x_25.toInt : Int) ≠ (-3) := ic_ne rfl kI_m3 c_29
              refine lv_lload hx hb dX6_shift_80 (lv_at hl 9 rfl) ?_
              refine lv_lconst (v := 0) hx hb dX6_shift_82 (by decide) ?_
              refine W.lcmp hx hb dX6_shift_83 ?_
              refine lv_if_lt (tgt := 105) hx hb dX6_shift_84 (by decide) (fun c_30 => ?_) (fun c_30 => ?_)
              · skip
                have ic_30 : (v.toInt : Int) < 0 := lc_lt rfl kJ_0 ((lg_cmp_lt _ _).mp c_30)
                have sr_ : (shR (bdS s2_ (hob s2_ hd.toNatClampNeg)) (bdS s2_ (hob s2_ g_.toNatClampNeg)) jj.toInt.toNat q_.toNatClampNeg (vaS s2_ Y)) = 3 := shR_n (by omega) (by omega) (by rw [← vv_]; omega)
                refine lv_aload_n hx hb dX6_shift_105 rfl (lv_at hl 4 rfl) ?_
                refine lv_iconst (v := 3) hx hb dX6_shift_106 (by decide) ?_
                refine m_put (ci := 6) (v := .int 3) (C := RX6) (T := TX6) (N := 30) hx hb hC hH hts in_X6_shift_X6 tyX6 tyX6_ok nmX6 hown F_15 rfl 28 (by decide) (hts (.fieldLink RX6 155 "LazyStateModel" "threw" "I") (by decide +kernel)) rfl rfl rfl (Nat.le_of_ble_eq_true rfl) dX6_shift_107 (fun H locs hH => ?_)
                have hH : mH G s (va_up f_11 (h 0) (some (.inr (6, [.int (nI n), .ref (h 1), .int (nI hg), .ref (h 3), .ref (h 4), .ref (h 5), .ref (h 6), .int (feL fe0 c0q (rdL s2_ g_.toNatClampNeg q_.toNatClampNeg)), .ref (h 8), .ref (h 9), .ref (h 10), .ref (h 11), .ref (h 12), .ref (h 13), .ref (h 14), .ref (h 15), .int ca, .long (gfS (rdL s2_ g_.toNatClampNeg q_.toNatClampNeg)), .int wh, .int (nI ((trS (rdL s2_ g_.toNatClampNeg q_.toNatClampNeg)).length)), .ref (h 20), .ref (h 21), .int (nI wl.length), .ref (h 23), .ref (h 24), .int (nI ac), .ref (h 26), .ref (h 27), .int 3, .int sx])))) H locs := hH
                obtain ⟨f_31, ef_31⟩ : ∃ zz_ : mF, zz_ = va_up f_11 (h 0) (some (.inr (6, [.int (nI n), .ref (h 1), .int (nI hg), .ref (h 3), .ref (h 4), .ref (h 5), .ref (h 6), .int (feL fe0 c0q (rdL s2_ g_.toNatClampNeg q_.toNatClampNeg)), .ref (h 8), .ref (h 9), .ref (h 10), .ref (h 11), .ref (h 12), .ref (h 13), .ref (h 14), .ref (h 15), .int ca, .long (gfS (rdL s2_ g_.toNatClampNeg q_.toNatClampNeg)), .int wh, .int (nI ((trS (rdL s2_ g_.toNatClampNeg q_.toNatClampNeg)).length)), .ref (h 20), .ref (h 21), .int (nI wl.length), .ref (h 23), .ref (h 24), .int (nI ac), .ref (h 26), .ref (h 27), .int 3, .int sx]))) := ⟨_, rfl⟩
                rw [← ef_31] at hH
                have hM : MEM G h n (nI hg, (feL fe0 c0q (rdL s2_ g_.toNatClampNeg q_.toNatClampNeg)), ca, (gfS (rdL s2_ g_.toNatClampNeg q_.toNatClampNeg)), wh, nI ((trS (rdL s2_ g_.toNatClampNeg q_.toNatClampNeg)).length), nI wl.length, nI ac, 3, sx) I_13 J_13 f_31 := hM.set0 ef_31
                have hfr := hfr.up 0 (by decide) ef_31
                exact m_vret hx hb hr hlk hC hH (fun _ => (0, 0)) ⟨hfr, by rw [show (pShf T σ hd.toNatClampNeg jj.toInt.toNat g_.toNatClampNeg q_.toNatClampNeg Y) = thn (ask T (rdL s1_ hd.toNatClampNeg jj.toInt.toNat) g_.toNatClampNeg q_.toNatClampNeg 3) (fun s2 => thn (shR (bdS s2 (hob s2 hd.toNatClampNeg)) (bdS s2 (hob s2 g_.toNatClampNeg)) jj.toInt.toNat q_.toNatClampNeg (vaS s2 Y), rdL s2 g_.toNatClampNeg q_.toNatClampNeg) (fun s3 => (0, sBd (chL s3 g_.toNatClampNeg q_.toNatClampNeg) (hob s3 g_.toNatClampNeg) (cpyM (bdS s3 (hob s3 hd.toNatClampNeg)) (bdS s3 (hob s3 g_.toNatClampNeg)) jj.toInt.toNat q_.toNatClampNeg (vaS s3 Y).toInt.toNat)))) from (thn_0 a01).trans (by rw [← es1_]), thn_0 a02, ← es2_, thn_1 (by show (shR (bdS s2_ (hob s2_ hd.toNatClampNeg)) (bdS s2_ (hob s2_ g_.toNatClampNeg)) jj.toInt.toNat q_.toNatClampNeg (vaS s2_ Y)) ≠ 0; rw [sr_]; decide), sr_]; exact ⟨_, _, hM, hR, hac_13, by omega⟩⟩ (Nat.le_of_ble_eq_true rfl) (Nat.le_of_ble_eq_true rfl) dX6_shift_110
              · skip
                have ic_30 : (v.toInt : Int) ≥ 0 := lc_nlt rfl kJ_0 (fun q_ => c_30 ((lg_cmp_lt _ _).mpr q_))
                refine lv_lload hx hb dX6_shift_87 (lv_at hl 9 rfl) ?_
                refine lv_iload hx hb dX6_shift_89 (lv_at hl 1 rfl) ?_
                refine lv_i2l hx hb dX6_shift_91 rfl ?_
                refine lv_topl (fun y_32 ey_32 => ?_)
                have iy_32 : y_32.toInt = x_20.toInt := lc_i2l ey_32 rfl
                have gy_32 := ic_rng x_20
                refine W.lcmp hx hb dX6_shift_92 ?_
                refine lv_if_gt (tgt := 105) hx hb dX6_shift_93 (by decide) (fun c_33 => ?_) (fun c_33 => ?_)
                · skip
                  have ic_33 : (y_32.toInt : Int) < v.toInt := lc_lt rfl rfl ((lg_cmp_gt _ _).mp c_33)
                  have sr_ : (shR (bdS s2_ (hob s2_ hd.toNatClampNeg)) (bdS s2_ (hob s2_ g_.toNatClampNeg)) jj.toInt.toNat q_.toNatClampNeg (vaS s2_ Y)) = 3 := shR_n (by omega) (by omega) (by rw [← vv_]; omega)
                  refine lv_aload_n hx hb dX6_shift_105 rfl (lv_at hl 4 rfl) ?_
                  refine lv_iconst (v := 3) hx hb dX6_shift_106 (by decide) ?_
                  refine m_put (ci := 6) (v := .int 3) (C := RX6) (T := TX6) (N := 30) hx hb hC hH hts in_X6_shift_X6 tyX6 tyX6_ok nmX6 hown F_15 rfl 28 (by decide) (hts (.fieldLink RX6 155 "LazyStateModel" "threw" "I") (by decide +kernel)) rfl rfl rfl (Nat.le_of_ble_eq_true rfl) dX6_shift_107 (fun H locs hH => ?_)
                  have hH : mH G s (va_up f_11 (h 0) (some (.inr (6, [.int (nI n), .ref (h 1), .int (nI hg), .ref (h 3), .ref (h 4), .ref (h 5), .ref (h 6), .int (feL fe0 c0q (rdL s2_ g_.toNatClampNeg q_.toNatClampNeg)), .ref (h 8), .ref (h 9), .ref (h 10), .ref (h 11), .ref (h 12), .ref (h 13), .ref (h 14), .ref (h 15), .int ca, .long (gfS (rdL s2_ g_.toNatClampNeg q_.toNatClampNeg)), .int wh, .int (nI ((trS (rdL s2_ g_.toNatClampNeg q_.toNatClampNeg)).length)), .ref (h 20), .ref (h 21), .int (nI wl.length), .ref (h 23), .ref (h 24), .int (nI ac), .ref (h 26), .ref (h 27), .int 3, .int sx])))) H locs := hH
                  obtain ⟨f_34, ef_34⟩ : ∃ zz_ : mF, zz_ = va_up f_11 (h 0) (some (.inr (6, [.int (nI n), .ref (h 1), .int (nI hg), .ref (h 3), .ref (h 4), .ref (h 5), .ref (h 6), .int (feL fe0 c0q (rdL s2_ g_.toNatClampNeg q_.toNatClampNeg)), .ref (h 8), .ref (h 9), .ref (h 10), .ref (h 11), .ref (h 12), .ref (h 13), .ref (h 14), .ref (h 15), .int ca, .long (gfS (rdL s2_ g_.toNatClampNeg q_.toNatClampNeg)), .int wh, .int (nI ((trS (rdL s2_ g_.toNatClampNeg q_.toNatClampNeg)).length)), .ref (h 20), .ref (h 21), .int (nI wl.length), .ref (h 23), .ref (h 24), .int (nI ac), .ref (h 26), .ref (h 27), .int 3, .int sx]))) := ⟨_, rfl⟩
                  rw [← ef_34] at hH
                  have hM : MEM G h n (nI hg, (feL fe0 c0q (rdL s2_ g_.toNatClampNeg q_.toNatClampNeg)), ca, (gfS (rdL s2_ g_.toNatClampNeg q_.toNatClampNeg)), wh, nI ((trS (rdL s2_ g_.toNatClampNeg q_.toNatClampNeg)).length), nI wl.length, nI ac, 3, sx) I_13 J_13 f_34 := hM.set0 ef_34
                  have hfr := hfr.up 0 (by decide) ef_34
                  exact m_vret hx hb hr hlk hC hH (fun _ => (0, 0)) ⟨hfr, by rw [show (pShf T σ hd.toNatClampNeg jj.toInt.toNat g_.toNatClampNeg q_.toNatClampNeg Y) = thn (ask T (rdL s1_ hd.toNatClampNeg jj.toInt.toNat) g_.toNatClampNeg q_.toNatClampNeg 3) (fun s2 => thn (shR (bdS s2 (hob s2 hd.toNatClampNeg)) (bdS s2 (hob s2 g_.toNatClampNeg)) jj.toInt.toNat q_.toNatClampNeg (vaS s2 Y), rdL s2 g_.toNatClampNeg q_.toNatClampNeg) (fun s3 => (0, sBd (chL s3 g_.toNatClampNeg q_.toNatClampNeg) (hob s3 g_.toNatClampNeg) (cpyM (bdS s3 (hob s3 hd.toNatClampNeg)) (bdS s3 (hob s3 g_.toNatClampNeg)) jj.toInt.toNat q_.toNatClampNeg (vaS s3 Y).toInt.toNat)))) from (thn_0 a01).trans (by rw [← es1_]), thn_0 a02, ← es2_, thn_1 (by show (shR (bdS s2_ (hob s2_ hd.toNatClampNeg)) (bdS s2_ (hob s2_ g_.toNatClampNeg)) jj.toInt.toNat q_.toNatClampNeg (vaS s2_ Y)) ≠ 0; rw [sr_]; decide), sr_]; exact ⟨_, _, hM, hR, hac_13, by omega⟩⟩ (Nat.le_of_ble_eq_true rfl) (Nat.le_of_ble_eq_true rfl) dX6_shift_110
                · skip
                  have ic_33 : (y_32.toInt : Int) ≥ v.toInt := lc_nlt rfl rfl (fun q_ => c_33 ((lg_cmp_gt _ _).mpr q_))
                  refine lv_lload hx hb dX6_shift_96 (lv_at hl 9 rfl) ?_
                  refine lv_iload hx hb dX6_shift_98 (lv_at hl 0 rfl) ?_
                  refine lv_i2l hx hb dX6_shift_100 rfl ?_
                  refine lv_topl (fun y_35 ey_35 => ?_)
                  have iy_35 : y_35.toInt = x_25.toInt := lc_i2l ey_35 rfl
                  have gy_35 := ic_rng x_25
                  refine W.lcmp hx hb dX6_shift_101 ?_
                  refine lv_if_le (tgt := 111) hx hb dX6_shift_102 (by decide) (fun c_36 => ?_) (fun c_36 => ?_)
                  · skip
                    have ic_36 : (v.toInt : Int) ≤ y_35.toInt := lc_le rfl rfl ((lg_cmp_le _ _).mp c_36)
                    have sr_ : (shR (bdS s2_ (hob s2_ hd.toNatClampNeg)) (bdS s2_ (hob s2_ g_.toNatClampNeg)) jj.toInt.toNat q_.toNatClampNeg (vaS s2_ Y)) = 0 := shR_y (by omega) (by omega) (by rw [← vv_]; omega)
                    have hR0 := hR
                    refine lv_iconst (v := 0) hx hb dX6_shift_111 (by decide) ?_
                    refine lv_istore (lv' := [(12, .int 0), (11, .int x_25), (10, .int x_20), (9, .int r_10), (8, .int r_3), (0, .ref (h 0)), (1, .int hd), (2, .long jj), (4, .int g_), (5, .int q_), (6, .long v)]) hx hb dX6_shift_112 hl (by decide) rfl (fun ls hl => ?_)
                    have loop_114 : ∀ (fuel_ : Nat) (k12 : Int32) (fL : mF) (h0_ : 0 ≤ k12.toInt) (h1_ : k12.toInt ≤ v.toInt) (hfr : frM h f fL) (hM : MEM G h n (nI hg, (feL fe0 c0q (rdL s2_ g_.toNatClampNeg q_.toNatClampNeg)), ca, (gfS (rdL s2_ g_.toNatClampNeg q_.toNatClampNeg)), wh, nI ((trS (rdL s2_ g_.toNatClampNeg q_.toNatClampNeg)).length), nI wl.length, nI ac, nI 0, sx) (va_up I_13 5 (va_cpy (I_13 5) (I_13 5) (8 * (192 * 41 + 8 * hob s2_ hd.toNatClampNeg + jj.toInt.toNat)) (8 * (192 * 41 + 8 * hob s2_ g_.toNatClampNeg + q_.toNatClampNeg)) k12.toNatClampNeg)) J_13 fL) (_ : ((8 : Int) - k12.toInt).toNat < fuel_) (H : Heap) (locs : List Loc) (ls : Array Slot) (_ : mH G s fL H locs) (_ : lv_has ls 13 [(0, .ref (h 0)), (1, .int hd), (2, .long jj), (4, .int g_), (5, .int q_), (6, .long v), (8, .int r_3), (9, .int r_10), (10, .int x_20), (11, .int x_25), (12, .int k12)]), W p l e ({ frames := 3, cells := 0, slots := 0, locals := 71 } : Room) s m ([.ref (h 0), .int hd, .long jj, .int g_, .int q_, .long v] : List Value).toArray below meth c H locs (0 + 0 + 0 + 0 + 0) (0 + 0 + 0 + 0 + 0) (MQ below (va_Qv (fun (u : mS) => frM h f u.2 ∧ FM G h n T z A hg ver (cqL c0q ((pShf T σ hd.toNatClampNeg jj.toInt.toNat g_.toNatClampNeg q_.toNatClampNeg Y).2)) (feL fe0 c0q ((pShf T σ hd.toNatClampNeg jj.toInt.toNat g_.toNatClampNeg q_.toNatClampNeg Y).2)) tms ca wl wh ac ((pShf T σ hd.toNatClampNeg jj.toInt.toNat g_.toNatClampNeg q_.toNatClampNeg Y).1) sx ((pShf T σ hd.toNatClampNeg jj.toInt.toNat g_.toNatClampNeg q_.toNatClampNeg Y).2) u.2) (fun (u : mS) t => mW G u.2 t) (mA G)) ([.ref (h 0), .int hd, .long jj, .int g_, .int q_, .long v] : List Value).toArray s 0 0 (mA G)) (F0 m 114 ls []) := by
                      intro N_114
                      induction N_114 with
                      | zero => intro k12 fL h0_ h1_ hfr hM hN; omega
                      | succ N_114 ih_114 =>
                        intro k12 fL h0_ h1_ hfr hM hN_114 H locs ls hH hl
                        refine lv_iload hx hb dX6_shift_114 (lv_at hl 10 rfl) ?_
                        refine lv_i2l hx hb dX6_shift_116 rfl ?_
                        refine lv_topl (fun y_38 ey_38 => ?_)
                        have iy_38 : y_38.toInt = k12.toInt := lc_i2l ey_38 rfl
                        have gy_38 := ic_rng k12
                        refine lv_lload hx hb dX6_shift_117 (lv_at hl 5 rfl) ?_
                        refine W.lcmp hx hb dX6_shift_119 ?_
                        refine lv_if_ge (tgt := 161) hx hb dX6_shift_120 (by decide) (fun c_39 => ?_) (fun c_39 => ?_)
                        · skip
                          have ic_39 : (v.toInt : Int) ≤ y_38.toInt := lc_le rfl rfl ((lg_cmp_ge _ _).mp c_39)
                          have kv_ : k12.toNatClampNeg = (vaS s2_ Y).toInt.toNat := by have := ic_clN (rfl : k12.toInt = _) (by omega); rw [← vv_]; omega
                          rw [kv_] at hM
                          have hR := hR.cpy (o1 := hob s2_ hd.toNatClampNeg) (j1 := jj.toInt.toNat) (o := hob s2_ g_.toNatClampNeg) (j := q_.toNatClampNeg) (m := (vaS s2_ Y).toInt.toNat) au21 (by omega) au31 au22 (by omega) au32 (by show (((vaS s2_ Y).toInt.toNat : Nat) : Int) ≤ ((bdS s2_ (hob s2_ g_.toNatClampNeg)).1 q_.toNatClampNeg).toInt; rw [← vv_]; omega) (by rw [← vv_]; omega) rfl
                          have hI : FM G h n T z A hg ver (cqL c0q (sBd (rdL s2_ g_.toNatClampNeg q_.toNatClampNeg) (hob s2_ g_.toNatClampNeg) (cpyM (bdS s2_ (hob s2_ hd.toNatClampNeg)) (bdS s2_ (hob s2_ g_.toNatClampNeg)) jj.toInt.toNat q_.toNatClampNeg (vaS s2_ Y).toInt.toNat))) (feL fe0 c0q (sBd (rdL s2_ g_.toNatClampNeg q_.toNatClampNeg) (hob s2_ g_.toNatClampNeg) (cpyM (bdS s2_ (hob s2_ hd.toNatClampNeg)) (bdS s2_ (hob s2_ g_.toNatClampNeg)) jj.toInt.toNat q_.toNatClampNeg (vaS s2_ Y).toInt.toNat))) tms ca wl wh ac 0 sx (sBd (rdL s2_ g_.toNatClampNeg q_.toNatClampNeg) (hob s2_ g_.toNatClampNeg) (cpyM (bdS s2_ (hob s2_ hd.toNatClampNeg)) (bdS s2_ (hob s2_ g_.toNatClampNeg)) jj.toInt.toNat q_.toNatClampNeg (vaS s2_ Y).toInt.toNat)) fL := ⟨_, _, hM, hR, hac_13, hth_13⟩
                          obtain ⟨I_40, J_40, hM, hR, hac_40, hth_40⟩ := hI
                          have hg_40 := hR.hg40
                          have n24_40 := hR.n24
                          have tl_40 := len_b hR.ok.2.2.1
                          have wl_40 := hR.wl192
                          have hgI_40 : (nI hg).toInt = ((hg : Nat) : Int) := nI_toInt (by omega)
                          have tmI_40 : (nI ((trS (sBd (rdL s2_ g_.toNatClampNeg q_.toNatClampNeg) (hob s2_ g_.toNatClampNeg) (cpyM (bdS s2_ (hob s2_ hd.toNatClampNeg)) (bdS s2_ (hob s2_ g_.toNatClampNeg)) jj.toInt.toNat q_.toNatClampNeg (vaS s2_ Y).toInt.toNat))).length)).toInt = (((trS (sBd (rdL s2_ g_.toNatClampNeg q_.toNatClampNeg) (hob s2_ g_.toNatClampNeg) (cpyM (bdS s2_ (hob s2_ hd.toNatClampNeg)) (bdS s2_ (hob s2_ g_.toNatClampNeg)) jj.toInt.toNat q_.toNatClampNeg (vaS s2_ Y).toInt.toNat))).length : Nat) : Int) := nI_toInt (by omega)
                          have wmI_40 : (nI wl.length).toInt = ((wl.length : Nat) : Int) := nI_toInt (by omega)
                          have acI_40 : (nI ac).toInt = ((ac : Nat) : Int) := nI_toInt (by omega)
                          have thI_40 : (nI 0).toInt = ((0 : Nat) : Int) := nI_toInt (by omega)
                          have nIn_40 : (nI n).toInt = ((n : Nat) : Int) := nI_toInt (by omega)
                          refine lv_aload_n hx hb dX6_shift_161 rfl (lv_at hl 0 rfl) ?_
                          refine lv_iload hx hb dX6_shift_162 (lv_at hl 7 rfl) ?_
                          refine lv_iconst (v := 1) hx hb dX6_shift_164 (by decide) ?_
                          have F_41 : fL (h 0) = some (.inr (6, [.int (nI n), .ref (h 1), .int (nI hg), .ref (h 3), .ref (h 4), .ref (h 5), .ref (h 6), .int (feL fe0 c0q (sBd (rdL s2_ g_.toNatClampNeg q_.toNatClampNeg) (hob s2_ g_.toNatClampNeg) (cpyM (bdS s2_ (hob s2_ hd.toNatClampNeg)) (bdS s2_ (hob s2_ g_.toNatClampNeg)) jj.toInt.toNat q_.toNatClampNeg (vaS s2_ Y).toInt.toNat))), .ref (h 8), .ref (h 9), .ref (h 10), .ref (h 11), .ref (h 12), .ref (h 13), .ref (h 14), .ref (h 15), .int ca, .long (gfS (sBd (rdL s2_ g_.toNatClampNeg q_.toNatClampNeg) (hob s2_ g_.toNatClampNeg) (cpyM (bdS s2_ (hob s2_ hd.toNatClampNeg)) (bdS s2_ (hob s2_ g_.toNatClampNeg)) jj.toInt.toNat q_.toNatClampNeg (vaS s2_ Y).toInt.toNat))), .int wh, .int (nI ((trS (sBd (rdL s2_ g_.toNatClampNeg q_.toNatClampNeg) (hob s2_ g_.toNatClampNeg) (cpyM (bdS s2_ (hob s2_ hd.toNatClampNeg)) (bdS s2_ (hob s2_ g_.toNatClampNeg)) jj.toInt.toNat q_.toNatClampNeg (vaS s2_ Y).toInt.toNat))).length)), .ref (h 20), .ref (h 21), .int (nI wl.length), .ref (h 23), .ref (h 24), .int (nI ac), .ref (h 26), .ref (h 27), .int (nI 0), .int sx])) := hM.1
                          have hI : FM G h n T z A hg ver (cqL c0q (sBd (rdL s2_ g_.toNatClampNeg q_.toNatClampNeg) (hob s2_ g_.toNatClampNeg) (cpyM (bdS s2_ (hob s2_ hd.toNatClampNeg)) (bdS s2_ (hob s2_ g_.toNatClampNeg)) jj.toInt.toNat q_.toNatClampNeg (vaS s2_ Y).toInt.toNat))) (feL fe0 c0q (sBd (rdL s2_ g_.toNatClampNeg q_.toNatClampNeg) (hob s2_ g_.toNatClampNeg) (cpyM (bdS s2_ (hob s2_ hd.toNatClampNeg)) (bdS s2_ (hob s2_ g_.toNatClampNeg)) jj.toInt.toNat q_.toNatClampNeg (vaS s2_ Y).toInt.toNat))) tms ca wl wh ac 0 sx (sBd (rdL s2_ g_.toNatClampNeg q_.toNatClampNeg) (hob s2_ g_.toNatClampNeg) (cpyM (bdS s2_ (hob s2_ hd.toNatClampNeg)) (bdS s2_ (hob s2_ g_.toNatClampNeg)) jj.toInt.toNat q_.toNatClampNeg (vaS s2_ Y).toInt.toNat)) fL := ⟨_, _, hM, hR, hac_40, hth_40⟩
                          refine m_gov hH (va_runV (As := [.int r_10, .int 1]) (rest := []) ⟨hx, hb, hml, hown, hts⟩ (c_X6_touch l G h n T z A hg ver c0q fe0 tms ca wl wh ac 0 sx (sBd (rdL s2_ g_.toNatClampNeg q_.toNatClampNeg) (hob s2_ g_.toNatClampNeg) (cpyM (bdS s2_ (hob s2_ hd.toNatClampNeg)) (bdS s2_ (hob s2_ g_.toNatClampNeg)) jj.toInt.toNat q_.toNatClampNeg (vaS s2_ Y).toInt.toNat)) fL hI hn0 r_10 1 (by have := kI_1; omega) (by have := kI_1; omega)) (cwV 2 hts gX6_shift_X6_touch rfl rfl rfl (by decide +kernel) ⟨Nat.le_of_ble_eq_true rfl, Nat.le_of_ble_eq_true rfl⟩) (m_preV (ci := 6) hC hH F_41 rfl) rfl rfl hl.1 rfl (lv_room (Nat.le_of_ble_eq_true rfl)) dX6_shift_165 ⟨Nat.le_of_ble_eq_true rfl, Nat.le_of_ble_eq_true rfl⟩) (fun rho_44 f_43 H locs hw hH => ?_)
                          obtain ⟨hfr1, hI⟩ := hw
                          have hfr1 : frM h fL f_43 := hfr1
                          have hfr := hfr.trans hfr1
                          have hI : FM G h n T z A hg ver (cqL c0q (sTc (sBd (rdL s2_ g_.toNatClampNeg q_.toNatClampNeg) (hob s2_ g_.toNatClampNeg) (cpyM (bdS s2_ (hob s2_ hd.toNatClampNeg)) (bdS s2_ (hob s2_ g_.toNatClampNeg)) jj.toInt.toNat q_.toNatClampNeg (vaS s2_ Y).toInt.toNat)) (2 * r_10.toNatClampNeg + (1 : Int32).toNatClampNeg))) (feL fe0 c0q (sTc (sBd (rdL s2_ g_.toNatClampNeg q_.toNatClampNeg) (hob s2_ g_.toNatClampNeg) (cpyM (bdS s2_ (hob s2_ hd.toNatClampNeg)) (bdS s2_ (hob s2_ g_.toNatClampNeg)) jj.toInt.toNat q_.toNatClampNeg (vaS s2_ Y).toInt.toNat)) (2 * r_10.toNatClampNeg + (1 : Int32).toNatClampNeg))) tms ca wl wh ac 0 sx (sTc (sBd (rdL s2_ g_.toNatClampNeg q_.toNatClampNeg) (hob s2_ g_.toNatClampNeg) (cpyM (bdS s2_ (hob s2_ hd.toNatClampNeg)) (bdS s2_ (hob s2_ g_.toNatClampNeg)) jj.toInt.toNat q_.toNatClampNeg (vaS s2_ Y).toInt.toNat)) (2 * r_10.toNatClampNeg + (1 : Int32).toNatClampNeg)) f_43 := hI
                          rw [show 2 * r_10.toNatClampNeg + (1 : Int32).toNatClampNeg = 2 * (8 * hob s2_ g_.toNatClampNeg + q_.toNatClampNeg) + 1 from by have := ic_clN (rfl : r_10.toInt = _) (by omega); show 2 * r_10.toNatClampNeg + 1 = _; omega] at hI
                          have hI : FM G h n T z A hg ver (cqL c0q (sTc (sBd (rdL s2_ g_.toNatClampNeg q_.toNatClampNeg) (hob s2_ g_.toNatClampNeg) (cpyM (bdS s2_ (hob s2_ hd.toNatClampNeg)) (bdS s2_ (hob s2_ g_.toNatClampNeg)) jj.toInt.toNat q_.toNatClampNeg (vaS s2_ Y).toInt.toNat)) (2 * (8 * hob s2_ g_.toNatClampNeg + q_.toNatClampNeg) + 1))) (feL fe0 c0q (sTc (sBd (rdL s2_ g_.toNatClampNeg q_.toNatClampNeg) (hob s2_ g_.toNatClampNeg) (cpyM (bdS s2_ (hob s2_ hd.toNatClampNeg)) (bdS s2_ (hob s2_ g_.toNatClampNeg)) jj.toInt.toNat q_.toNatClampNeg (vaS s2_ Y).toInt.toNat)) (2 * (8 * hob s2_ g_.toNatClampNeg + q_.toNatClampNeg) + 1))) tms ca wl wh ac 0 sx (sTc (sBd (rdL s2_ g_.toNatClampNeg q_.toNatClampNeg) (hob s2_ g_.toNatClampNeg) (cpyM (bdS s2_ (hob s2_ hd.toNatClampNeg)) (bdS s2_ (hob s2_ g_.toNatClampNeg)) jj.toInt.toNat q_.toNatClampNeg (vaS s2_ Y).toInt.toNat)) (2 * (8 * hob s2_ g_.toNatClampNeg + q_.toNatClampNeg) + 1)) f_43 := hI
                          obtain ⟨I_45, J_45, hM, hR, hac_45, hth_45⟩ := hI
                          have hg_45 := hR.hg40
                          have n24_45 := hR.n24
                          have tl_45 := len_b hR.ok.2.2.1
                          have wl_45 := hR.wl192
                          have hgI_45 : (nI hg).toInt = ((hg : Nat) : Int) := nI_toInt (by omega)
                          have tmI_45 : (nI ((trS (sTc (sBd (rdL s2_ g_.toNatClampNeg q_.toNatClampNeg) (hob s2_ g_.toNatClampNeg) (cpyM (bdS s2_ (hob s2_ hd.toNatClampNeg)) (bdS s2_ (hob s2_ g_.toNatClampNeg)) jj.toInt.toNat q_.toNatClampNeg (vaS s2_ Y).toInt.toNat)) (2 * (8 * hob s2_ g_.toNatClampNeg + q_.toNatClampNeg) + 1))).length)).toInt = (((trS (sTc (sBd (rdL s2_ g_.toNatClampNeg q_.toNatClampNeg) (hob s2_ g_.toNatClampNeg) (cpyM (bdS s2_ (hob s2_ hd.toNatClampNeg)) (bdS s2_ (hob s2_ g_.toNatClampNeg)) jj.toInt.toNat q_.toNatClampNeg (vaS s2_ Y).toInt.toNat)) (2 * (8 * hob s2_ g_.toNatClampNeg + q_.toNatClampNeg) + 1))).length : Nat) : Int) := nI_toInt (by omega)
                          have wmI_45 : (nI wl.length).toInt = ((wl.length : Nat) : Int) := nI_toInt (by omega)
                          have acI_45 : (nI ac).toInt = ((ac : Nat) : Int) := nI_toInt (by omega)
                          have thI_45 : (nI 0).toInt = ((0 : Nat) : Int) := nI_toInt (by omega)
                          have nIn_45 : (nI n).toInt = ((n : Nat) : Int) := nI_toInt (by omega)
                          exact m_vret hx hb hr hlk hC hH (fun _ => (0, 0)) ⟨hfr, by rw [show (pShf T σ hd.toNatClampNeg jj.toInt.toNat g_.toNatClampNeg q_.toNatClampNeg Y) = thn (ask T (rdL s1_ hd.toNatClampNeg jj.toInt.toNat) g_.toNatClampNeg q_.toNatClampNeg 3) (fun s2 => thn (shR (bdS s2 (hob s2 hd.toNatClampNeg)) (bdS s2 (hob s2 g_.toNatClampNeg)) jj.toInt.toNat q_.toNatClampNeg (vaS s2 Y), rdL s2 g_.toNatClampNeg q_.toNatClampNeg) (fun s3 => (0, sBd (chL s3 g_.toNatClampNeg q_.toNatClampNeg) (hob s3 g_.toNatClampNeg) (cpyM (bdS s3 (hob s3 hd.toNatClampNeg)) (bdS s3 (hob s3 g_.toNatClampNeg)) jj.toInt.toNat q_.toNatClampNeg (vaS s3 Y).toInt.toNat)))) from (thn_0 a01).trans (by rw [← es1_]), thn_0 a02, ← es2_, thn_0 sr_]; exact ⟨_, _, hM, hR, hac_45, hth_45⟩⟩ (Nat.le_of_ble_eq_true rfl) (Nat.le_of_ble_eq_true rfl) dX6_shift_168
                        · skip
                          have ic_39 : (v.toInt : Int) > y_38.toInt := lc_nle rfl rfl (fun q_ => c_39 ((lg_cmp_ge _ _).mpr q_))
                          refine lv_aload_n hx hb dX6_shift_123 rfl (lv_at hl 0 rfl) ?_
                          have F_46 : fL (h 0) = some (.inr (6, [.int (nI n), .ref (h 1), .int (nI hg), .ref (h 3), .ref (h 4), .ref (h 5), .ref (h 6), .int (feL fe0 c0q (rdL s2_ g_.toNatClampNeg q_.toNatClampNeg)), .ref (h 8), .ref (h 9), .ref (h 10), .ref (h 11), .ref (h 12), .ref (h 13), .ref (h 14), .ref (h 15), .int ca, .long (gfS (rdL s2_ g_.toNatClampNeg q_.toNatClampNeg)), .int wh, .int (nI ((trS (rdL s2_ g_.toNatClampNeg q_.toNatClampNeg)).length)), .ref (h 20), .ref (h 21), .int (nI wl.length), .ref (h 23), .ref (h 24), .int (nI ac), .ref (h 26), .ref (h 27), .int (nI 0), .int sx])) := hM.1
                          refine m_get (ci := 6) (v := .ref (h 5)) (C := RX6) (T := TX6) (N := 30) hx hb hC hH hts in_X6_shift_X6 hown F_46 rfl 5 (by decide) (hts (.fieldLink RX6 21 "LazyStateModel" "items" "[I") (by decide +kernel)) rfl dX6_shift_124 ?_
                          refine lv_bipush (v := 8) hx hb dX6_shift_127 (by decide) ?_
                          refine lv_iload hx hb dX6_shift_129 (lv_at hl 7 rfl) ?_
                          refine m_goi hH (va_runS (As := [.int r_10]) (rest := [.int 8, .ref (h 5)]) ⟨hx, hb, hml, hown, hts⟩ (c_X6_at l G fL r_10 (by exact ⟨by omega, by omega⟩)) (va_cwS 1 hts gX6_shift_X6_at rfl rfl rfl (by decide +kernel) ⟨Nat.le_of_ble_eq_true rfl, Nat.le_of_ble_eq_true rfl⟩) (m_preS hC hH) rfl rfl hl.1 rfl (lv_room (Nat.le_of_ble_eq_true rfl)) dX6_shift_131 ⟨Nat.le_of_ble_eq_true rfl, Nat.le_of_ble_eq_true rfl⟩) (fun r_47 rho_49 f_48 H locs hw hH => ?_)
                          obtain ⟨hu, hr_47⟩ := hw
                          have hu : f_48 = fL := hu
                          rw [hu] at hH
                          refine lv_imul hx hb dX6_shift_134 ?_
                          refine lv_topi (fun x_50 ex_50 => ?_)
                          have ix_50 : x_50.toInt = 8 * r_47.toInt := ic_mul ex_50 kI_8 rfl (by omega) (by omega)
                          refine lv_iload hx hb dX6_shift_135 (lv_at hl 10 rfl) ?_
                          refine lv_iadd hx hb dX6_shift_137 ?_
                          refine lv_topi (fun x_51 ex_51 => ?_)
                          have ix_51 : x_51.toInt = x_50.toInt + k12.toInt := ic_add ex_51 rfl rfl (by omega) (by omega)
                          refine lv_aload_n hx hb dX6_shift_138 rfl (lv_at hl 0 rfl) ?_
                          refine m_get (ci := 6) (v := .ref (h 5)) (C := RX6) (T := TX6) (N := 30) hx hb hC hH hts in_X6_shift_X6 hown F_46 rfl 5 (by decide) (hts (.fieldLink RX6 21 "LazyStateModel" "items" "[I") (by decide +kernel)) rfl dX6_shift_139 ?_
                          refine lv_bipush (v := 8) hx hb dX6_shift_142 (by decide) ?_
                          refine lv_iload hx hb dX6_shift_144 (lv_at hl 6 rfl) ?_
                          refine m_goi hH (va_runS (As := [.int r_3]) (rest := [.int 8, .ref (h 5), .int x_51, .ref (h 5)]) ⟨hx, hb, hml, hown, hts⟩ (c_X6_at l G fL r_3 (by exact ⟨by omega, by omega⟩)) (va_cwS 1 hts gX6_shift_X6_at rfl rfl rfl (by decide +kernel) ⟨Nat.le_of_ble_eq_true rfl, Nat.le_of_ble_eq_true rfl⟩) (m_preS hC hH) rfl rfl hl.1 rfl (lv_room (Nat.le_of_ble_eq_true rfl)) dX6_shift_146 ⟨Nat.le_of_ble_eq_true rfl, Nat.le_of_ble_eq_true rfl⟩) (fun r_52 rho_54 f_53 H locs hw hH => ?_)
                          obtain ⟨hu, hr_52⟩ := hw
                          have hu : f_53 = fL := hu
                          rw [hu] at hH
                          refine lv_imul hx hb dX6_shift_149 ?_
                          refine lv_topi (fun x_55 ex_55 => ?_)
                          have ix_55 : x_55.toInt = 8 * r_52.toInt := ic_mul ex_55 kI_8 rfl (by omega) (by omega)
                          refine lv_iload hx hb dX6_shift_150 (lv_at hl 10 rfl) ?_
                          refine lv_iadd hx hb dX6_shift_152 ?_
                          refine lv_topi (fun x_56 ex_56 => ?_)
                          have ix_56 : x_56.toInt = x_55.toInt + k12.toInt := ic_add ex_56 rfl rfl (by omega) (by omega)
                          have hg_57 : fL (h 5) = some (.inl (gk G 0, 64512, .inl (va_cpy (I_13 5) (I_13 5) (8 * (192 * 41 + 8 * hob s2_ hd.toNatClampNeg + jj.toInt.toNat)) (8 * (192 * 41 + 8 * hob s2_ g_.toNatClampNeg + q_.toNatClampNeg)) k12.toNatClampNeg))) := hM.2.1 5 (by decide) rfl
                          refine m_iald hx hb hC hH hg_57 (vp_in_iff.mpr ⟨by omega, by omega⟩) dX6_shift_153 ?_
                          refine lv_topi (fun x_58 ex_58 => ?_)
                          refine m_iast hx hb hC hH hg_57 (vp_in_iff.mpr ⟨by omega, by omega⟩) dX6_shift_154 (fun H locs hH => ?_)
                          obtain ⟨f_59, ef_59⟩ : ∃ zz_ : mF, zz_ = va_up fL (h 5) (some (.inl (gk G 0, 64512, .inl (upd (va_cpy (I_13 5) (I_13 5) (8 * (192 * 41 + 8 * hob s2_ hd.toNatClampNeg + jj.toInt.toNat)) (8 * (192 * 41 + 8 * hob s2_ g_.toNatClampNeg + q_.toNatClampNeg)) k12.toNatClampNeg) x_51.toNatClampNeg x_58)))) := ⟨_, rfl⟩
                          rw [← ef_59] at hH
                          have hM : MEM G h n (nI hg, (feL fe0 c0q (rdL s2_ g_.toNatClampNeg q_.toNatClampNeg)), ca, (gfS (rdL s2_ g_.toNatClampNeg q_.toNatClampNeg)), wh, nI ((trS (rdL s2_ g_.toNatClampNeg q_.toNatClampNeg)).length), nI wl.length, nI ac, nI 0, sx) (va_up (va_up I_13 5 (va_cpy (I_13 5) (I_13 5) (8 * (192 * 41 + 8 * hob s2_ hd.toNatClampNeg + jj.toInt.toNat)) (8 * (192 * 41 + 8 * hob s2_ g_.toNatClampNeg + q_.toNatClampNeg)) k12.toNatClampNeg)) 5 (upd (va_cpy (I_13 5) (I_13 5) (8 * (192 * 41 + 8 * hob s2_ hd.toNatClampNeg + jj.toInt.toNat)) (8 * (192 * 41 + 8 * hob s2_ g_.toNatClampNeg + q_.toNatClampNeg)) k12.toNatClampNeg) x_51.toNatClampNeg x_58)) J_13 f_59 := hM.setI 5 (by decide) rfl ef_59
                          have hfr := hfr.up 5 (by decide) ef_59
                          have nn_60 : x_51.toNatClampNeg = (8 * (192 * 41 + 8 * hob s2_ g_.toNatClampNeg + q_.toNatClampNeg)) + k12.toNatClampNeg := by have := ic_clN (rfl : x_51.toInt = _) (by omega); have := ic_clN (rfl : k12.toInt = _) (by omega); omega
                          have nn_61 : x_56.toNatClampNeg = (8 * (192 * 41 + 8 * hob s2_ hd.toNatClampNeg + jj.toInt.toNat)) + k12.toNatClampNeg := by have := ic_clN (rfl : x_56.toInt = _) (by omega); have := ic_clN (rfl : k12.toInt = _) (by omega); omega
                          rw [nn_60, ex_58, nn_61, cpyI_step (N := 8) (by have := ic_clN (rfl : k12.toInt = _) (by omega); omega) (by omega), bx_uu] at hM
                          obtain ⟨x_62, ex_62⟩ : ∃ y : Int32, y = k12 + 1 := ⟨_, rfl⟩
                          have ix_62 : x_62.toInt = k12.toInt + 1 := ic_add ex_62 rfl kI_1 (by omega) (by omega)
                          refine lv_iinc (v := x_62) (lv' := [(12, .int x_62), (0, .ref (h 0)), (1, .int hd), (2, .long jj), (4, .int g_), (5, .int q_), (6, .long v), (8, .int r_3), (9, .int r_10), (10, .int x_20), (11, .int x_25)]) hx hb dX6_shift_155 hl (k := 10) rfl (by rw [ex_62]; rfl) (by decide) rfl (fun ls hl => ?_)
                          refine lv_goto (tgt := 114) hx hb dX6_shift_158 (by decide) ?_
                          exact ih_114 x_62 f_59 (by omega) (by omega) hfr (by rw [show x_62.toNatClampNeg = k12.toNatClampNeg + 1 from by have := ic_clN (rfl : x_62.toInt = _) (by omega); have := ic_clN (rfl : k12.toInt = _) (by omega); omega]; exact hM) (by omega) _ _ _ hH (lv_sub hl [1, 2, 3, 4, 5, 6, 7, 8, 9, 10, 0] rfl)
                    exact loop_114 (((8 : Int) - 0).toNat + 1) 0 f_11 (by have := kI_0; omega) (by have := kI_0; omega) hfr (by rw [show (0 : Int32).toNatClampNeg = 0 from rfl, cpy_0]; exact hM.idI 5) (by have := kI_0; omega) _ _ _ hH (lv_sub hl [5, 6, 7, 8, 9, 10, 4, 3, 2, 1, 0] rfl)
                  · skip
                    have ic_36 : (v.toInt : Int) > y_35.toInt := lc_nle rfl rfl (fun q_ => c_36 ((lg_cmp_le _ _).mpr q_))
                    have sr_ : (shR (bdS s2_ (hob s2_ hd.toNatClampNeg)) (bdS s2_ (hob s2_ g_.toNatClampNeg)) jj.toInt.toNat q_.toNatClampNeg (vaS s2_ Y)) = 3 := shR_n (by omega) (by omega) (by rw [← vv_]; omega)
                    refine lv_aload_n hx hb dX6_shift_105 rfl (lv_at hl 4 rfl) ?_
                    refine lv_iconst (v := 3) hx hb dX6_shift_106 (by decide) ?_
                    refine m_put (ci := 6) (v := .int 3) (C := RX6) (T := TX6) (N := 30) hx hb hC hH hts in_X6_shift_X6 tyX6 tyX6_ok nmX6 hown F_15 rfl 28 (by decide) (hts (.fieldLink RX6 155 "LazyStateModel" "threw" "I") (by decide +kernel)) rfl rfl rfl (Nat.le_of_ble_eq_true rfl) dX6_shift_107 (fun H locs hH => ?_)
                    have hH : mH G s (va_up f_11 (h 0) (some (.inr (6, [.int (nI n), .ref (h 1), .int (nI hg), .ref (h 3), .ref (h 4), .ref (h 5), .ref (h 6), .int (feL fe0 c0q (rdL s2_ g_.toNatClampNeg q_.toNatClampNeg)), .ref (h 8), .ref (h 9), .ref (h 10), .ref (h 11), .ref (h 12), .ref (h 13), .ref (h 14), .ref (h 15), .int ca, .long (gfS (rdL s2_ g_.toNatClampNeg q_.toNatClampNeg)), .int wh, .int (nI ((trS (rdL s2_ g_.toNatClampNeg q_.toNatClampNeg)).length)), .ref (h 20), .ref (h 21), .int (nI wl.length), .ref (h 23), .ref (h 24), .int (nI ac), .ref (h 26), .ref (h 27), .int 3, .int sx])))) H locs := hH
                    obtain ⟨f_63, ef_63⟩ : ∃ zz_ : mF, zz_ = va_up f_11 (h 0) (some (.inr (6, [.int (nI n), .ref (h 1), .int (nI hg), .ref (h 3), .ref (h 4), .ref (h 5), .ref (h 6), .int (feL fe0 c0q (rdL s2_ g_.toNatClampNeg q_.toNatClampNeg)), .ref (h 8), .ref (h 9), .ref (h 10), .ref (h 11), .ref (h 12), .ref (h 13), .ref (h 14), .ref (h 15), .int ca, .long (gfS (rdL s2_ g_.toNatClampNeg q_.toNatClampNeg)), .int wh, .int (nI ((trS (rdL s2_ g_.toNatClampNeg q_.toNatClampNeg)).length)), .ref (h 20), .ref (h 21), .int (nI wl.length), .ref (h 23), .ref (h 24), .int (nI ac), .ref (h 26), .ref (h 27), .int 3, .int sx]))) := ⟨_, rfl⟩
                    rw [← ef_63] at hH
                    have hM : MEM G h n (nI hg, (feL fe0 c0q (rdL s2_ g_.toNatClampNeg q_.toNatClampNeg)), ca, (gfS (rdL s2_ g_.toNatClampNeg q_.toNatClampNeg)), wh, nI ((trS (rdL s2_ g_.toNatClampNeg q_.toNatClampNeg)).length), nI wl.length, nI ac, 3, sx) I_13 J_13 f_63 := hM.set0 ef_63
                    have hfr := hfr.up 0 (by decide) ef_63
                    exact m_vret hx hb hr hlk hC hH (fun _ => (0, 0)) ⟨hfr, by rw [show (pShf T σ hd.toNatClampNeg jj.toInt.toNat g_.toNatClampNeg q_.toNatClampNeg Y) = thn (ask T (rdL s1_ hd.toNatClampNeg jj.toInt.toNat) g_.toNatClampNeg q_.toNatClampNeg 3) (fun s2 => thn (shR (bdS s2 (hob s2 hd.toNatClampNeg)) (bdS s2 (hob s2 g_.toNatClampNeg)) jj.toInt.toNat q_.toNatClampNeg (vaS s2 Y), rdL s2 g_.toNatClampNeg q_.toNatClampNeg) (fun s3 => (0, sBd (chL s3 g_.toNatClampNeg q_.toNatClampNeg) (hob s3 g_.toNatClampNeg) (cpyM (bdS s3 (hob s3 hd.toNatClampNeg)) (bdS s3 (hob s3 g_.toNatClampNeg)) jj.toInt.toNat q_.toNatClampNeg (vaS s3 Y).toInt.toNat)))) from (thn_0 a01).trans (by rw [← es1_]), thn_0 a02, ← es2_, thn_1 (by show (shR (bdS s2_ (hob s2_ hd.toNatClampNeg)) (bdS s2_ (hob s2_ g_.toNatClampNeg)) jj.toInt.toNat q_.toNatClampNeg (vaS s2_ Y)) ≠ 0; rw [sr_]; decide), sr_]; exact ⟨_, _, hM, hR, hac_13, by omega⟩⟩ (Nat.le_of_ble_eq_true rfl) (Nat.le_of_ble_eq_true rfl) dX6_shift_110
            · skip
              have ic_29 : (x_25.toInt : Int) = (-3) := ic_eq rfl kI_m3 c_29
              have sr_ : (shR (bdS s2_ (hob s2_ hd.toNatClampNeg)) (bdS s2_ (hob s2_ g_.toNatClampNeg)) jj.toInt.toNat q_.toNatClampNeg (vaS s2_ Y)) = 1 := shR_1 (by omega)
              refine lv_aload_n hx hb dX6_shift_74 rfl (lv_at hl 4 rfl) ?_
              refine lv_iconst (v := 1) hx hb dX6_shift_75 (by decide) ?_
              refine m_put (ci := 6) (v := .int 1) (C := RX6) (T := TX6) (N := 30) hx hb hC hH hts in_X6_shift_X6 tyX6 tyX6_ok nmX6 hown F_15 rfl 28 (by decide) (hts (.fieldLink RX6 155 "LazyStateModel" "threw" "I") (by decide +kernel)) rfl rfl rfl (Nat.le_of_ble_eq_true rfl) dX6_shift_76 (fun H locs hH => ?_)
              have hH : mH G s (va_up f_11 (h 0) (some (.inr (6, [.int (nI n), .ref (h 1), .int (nI hg), .ref (h 3), .ref (h 4), .ref (h 5), .ref (h 6), .int (feL fe0 c0q (rdL s2_ g_.toNatClampNeg q_.toNatClampNeg)), .ref (h 8), .ref (h 9), .ref (h 10), .ref (h 11), .ref (h 12), .ref (h 13), .ref (h 14), .ref (h 15), .int ca, .long (gfS (rdL s2_ g_.toNatClampNeg q_.toNatClampNeg)), .int wh, .int (nI ((trS (rdL s2_ g_.toNatClampNeg q_.toNatClampNeg)).length)), .ref (h 20), .ref (h 21), .int (nI wl.length), .ref (h 23), .ref (h 24), .int (nI ac), .ref (h 26), .ref (h 27), .int 1, .int sx])))) H locs := hH
              obtain ⟨f_64, ef_64⟩ : ∃ zz_ : mF, zz_ = va_up f_11 (h 0) (some (.inr (6, [.int (nI n), .ref (h 1), .int (nI hg), .ref (h 3), .ref (h 4), .ref (h 5), .ref (h 6), .int (feL fe0 c0q (rdL s2_ g_.toNatClampNeg q_.toNatClampNeg)), .ref (h 8), .ref (h 9), .ref (h 10), .ref (h 11), .ref (h 12), .ref (h 13), .ref (h 14), .ref (h 15), .int ca, .long (gfS (rdL s2_ g_.toNatClampNeg q_.toNatClampNeg)), .int wh, .int (nI ((trS (rdL s2_ g_.toNatClampNeg q_.toNatClampNeg)).length)), .ref (h 20), .ref (h 21), .int (nI wl.length), .ref (h 23), .ref (h 24), .int (nI ac), .ref (h 26), .ref (h 27), .int 1, .int sx]))) := ⟨_, rfl⟩
              rw [← ef_64] at hH
              have hM : MEM G h n (nI hg, (feL fe0 c0q (rdL s2_ g_.toNatClampNeg q_.toNatClampNeg)), ca, (gfS (rdL s2_ g_.toNatClampNeg q_.toNatClampNeg)), wh, nI ((trS (rdL s2_ g_.toNatClampNeg q_.toNatClampNeg)).length), nI wl.length, nI ac, 1, sx) I_13 J_13 f_64 := hM.set0 ef_64
              have hfr := hfr.up 0 (by decide) ef_64
              exact m_vret hx hb hr hlk hC hH (fun _ => (0, 0)) ⟨hfr, by rw [show (pShf T σ hd.toNatClampNeg jj.toInt.toNat g_.toNatClampNeg q_.toNatClampNeg Y) = thn (ask T (rdL s1_ hd.toNatClampNeg jj.toInt.toNat) g_.toNatClampNeg q_.toNatClampNeg 3) (fun s2 => thn (shR (bdS s2 (hob s2 hd.toNatClampNeg)) (bdS s2 (hob s2 g_.toNatClampNeg)) jj.toInt.toNat q_.toNatClampNeg (vaS s2 Y), rdL s2 g_.toNatClampNeg q_.toNatClampNeg) (fun s3 => (0, sBd (chL s3 g_.toNatClampNeg q_.toNatClampNeg) (hob s3 g_.toNatClampNeg) (cpyM (bdS s3 (hob s3 hd.toNatClampNeg)) (bdS s3 (hob s3 g_.toNatClampNeg)) jj.toInt.toNat q_.toNatClampNeg (vaS s3 Y).toInt.toNat)))) from (thn_0 a01).trans (by rw [← es1_]), thn_0 a02, ← es2_, thn_1 (by show (shR (bdS s2_ (hob s2_ hd.toNatClampNeg)) (bdS s2_ (hob s2_ g_.toNatClampNeg)) jj.toInt.toNat q_.toNatClampNeg (vaS s2_ Y)) ≠ 0; rw [sr_]; decide), sr_]; exact ⟨_, _, hM, hR, hac_13, by omega⟩⟩ (Nat.le_of_ble_eq_true rfl) (Nat.le_of_ble_eq_true rfl) dX6_shift_79
        · skip
          have ic_14 : (0 : Int) > r_10.toInt := ic_nle kI_0 rfl c_14
          omega
      · skip
        have rv2 := hr_10.2 a02
        rw [thn_1 a02] at hI
        have hI : FM G h n T z A hg ver (cqL c0q ((ask T (rdL s1_ hd.toNatClampNeg jj.toInt.toNat) g_.toNatClampNeg q_.toNatClampNeg 3).2)) (feL fe0 c0q ((ask T (rdL s1_ hd.toNatClampNeg jj.toInt.toNat) g_.toNatClampNeg q_.toNatClampNeg 3).2)) tms ca wl wh ac ((ask T (rdL s1_ hd.toNatClampNeg jj.toInt.toNat) g_.toNatClampNeg q_.toNatClampNeg 3).1) sx ((ask T (rdL s1_ hd.toNatClampNeg jj.toInt.toNat) g_.toNatClampNeg q_.toNatClampNeg 3).2) f_11 := hI
        obtain ⟨I_65, J_65, hM, hR, hac_65, hth_65⟩ := hI
        have hg_65 := hR.hg40
        have n24_65 := hR.n24
        have tl_65 := len_b hR.ok.2.2.1
        have wl_65 := hR.wl192
        have hgI_65 : (nI hg).toInt = ((hg : Nat) : Int) := nI_toInt (by omega)
        have tmI_65 : (nI ((trS ((ask T (rdL s1_ hd.toNatClampNeg jj.toInt.toNat) g_.toNatClampNeg q_.toNatClampNeg 3).2)).length)).toInt = (((trS ((ask T (rdL s1_ hd.toNatClampNeg jj.toInt.toNat) g_.toNatClampNeg q_.toNatClampNeg 3).2)).length : Nat) : Int) := nI_toInt (by omega)
        have wmI_65 : (nI wl.length).toInt = ((wl.length : Nat) : Int) := nI_toInt (by omega)
        have acI_65 : (nI ac).toInt = ((ac : Nat) : Int) := nI_toInt (by omega)
        have thI_65 : (nI ((ask T (rdL s1_ hd.toNatClampNeg jj.toInt.toNat) g_.toNatClampNeg q_.toNatClampNeg 3).1)).toInt = (((ask T (rdL s1_ hd.toNatClampNeg jj.toInt.toNat) g_.toNatClampNeg q_.toNatClampNeg 3).1 : Nat) : Int) := nI_toInt (by omega)
        have nIn_65 : (nI n).toInt = ((n : Nat) : Int) := nI_toInt (by omega)
        refine lv_istore (lv' := [(9, .int r_10), (8, .int r_3), (0, .ref (h 0)), (1, .int hd), (2, .long jj), (4, .int g_), (5, .int q_), (6, .long v)]) hx hb dX6_shift_28 hl (by decide) rfl (fun ls hl => ?_)
        refine lv_iload hx hb dX6_shift_30 (lv_at hl 0 rfl) ?_
        refine lv_if_ge (tgt := 36) hx hb dX6_shift_32 (by decide) (fun c_66 => ?_) (fun c_66 => ?_)
        · skip
          have ic_66 : (0 : Int) ≤ r_10.toInt := ic_le kI_0 rfl c_66
          omega
        · skip
          have ic_66 : (0 : Int) > r_10.toInt := ic_nle kI_0 rfl c_66
          exact m_vret hx hb hr hlk hC hH (fun _ => (0, 0)) ⟨hfr, by rw [show (pShf T σ hd.toNatClampNeg jj.toInt.toNat g_.toNatClampNeg q_.toNatClampNeg Y) = thn (ask T (rdL s1_ hd.toNatClampNeg jj.toInt.toNat) g_.toNatClampNeg q_.toNatClampNeg 3) (fun s2 => thn (shR (bdS s2 (hob s2 hd.toNatClampNeg)) (bdS s2 (hob s2 g_.toNatClampNeg)) jj.toInt.toNat q_.toNatClampNeg (vaS s2 Y), rdL s2 g_.toNatClampNeg q_.toNatClampNeg) (fun s3 => (0, sBd (chL s3 g_.toNatClampNeg q_.toNatClampNeg) (hob s3 g_.toNatClampNeg) (cpyM (bdS s3 (hob s3 hd.toNatClampNeg)) (bdS s3 (hob s3 g_.toNatClampNeg)) jj.toInt.toNat q_.toNatClampNeg (vaS s3 Y).toInt.toNat)))) from (thn_0 a01).trans (by rw [← es1_]), thn_1 a02]; exact ⟨_, _, hM, hR, hac_65, hth_65⟩⟩ (Nat.le_of_ble_eq_true rfl) (Nat.le_of_ble_eq_true rfl) dX6_shift_35
    · skip
      have ic_7 : (0 : Int) > r_3.toInt := ic_nle kI_0 rfl c_7
      omega
  · skip
    have rv1 := hr_3.2 a01
    rw [thn_1 a01] at hI
    have hI : FM G h n T z A hg ver (cqL c0q ((ask T σ hd.toNatClampNeg jj.toInt.toNat 3).2)) (feL fe0 c0q ((ask T σ hd.toNatClampNeg jj.toInt.toNat 3).2)) tms ca wl wh ac ((ask T σ hd.toNatClampNeg jj.toInt.toNat 3).1) sx ((ask T σ hd.toNatClampNeg jj.toInt.toNat 3).2) f_4 := hI
    obtain ⟨I_67, J_67, hM, hR, hac_67, hth_67⟩ := hI
    have hg_67 := hR.hg40
    have n24_67 := hR.n24
    have tl_67 := len_b hR.ok.2.2.1
    have wl_67 := hR.wl192
    have hgI_67 : (nI hg).toInt = ((hg : Nat) : Int) := nI_toInt (by omega)
    have tmI_67 : (nI ((trS ((ask T σ hd.toNatClampNeg jj.toInt.toNat 3).2)).length)).toInt = (((trS ((ask T σ hd.toNatClampNeg jj.toInt.toNat 3).2)).length : Nat) : Int) := nI_toInt (by omega)
    have wmI_67 : (nI wl.length).toInt = ((wl.length : Nat) : Int) := nI_toInt (by omega)
    have acI_67 : (nI ac).toInt = ((ac : Nat) : Int) := nI_toInt (by omega)
    have thI_67 : (nI ((ask T σ hd.toNatClampNeg jj.toInt.toNat 3).1)).toInt = (((ask T σ hd.toNatClampNeg jj.toInt.toNat 3).1 : Nat) : Int) := nI_toInt (by omega)
    have nIn_67 : (nI n).toInt = ((n : Nat) : Int) := nI_toInt (by omega)
    refine lv_istore (lv' := [(8, .int r_3), (0, .ref (h 0)), (1, .int hd), (2, .long jj), (4, .int g_), (5, .int q_), (6, .long v)]) hx hb dX6_shift_7 hl (by decide) rfl (fun ls hl => ?_)
    refine lv_iload hx hb dX6_shift_9 (lv_at hl 0 rfl) ?_
    refine lv_if_ge (tgt := 18) hx hb dX6_shift_11 (by decide) (fun c_68 => ?_) (fun c_68 => ?_)
    · skip
      have ic_68 : (0 : Int) ≤ r_3.toInt := ic_le kI_0 rfl c_68
      omega
    · skip
      have ic_68 : (0 : Int) > r_3.toInt := ic_nle kI_0 rfl c_68
      refine lv_iconst (v := (-1)) hx hb dX6_shift_14 (by decide) ?_
      refine lv_goto (tgt := 28) hx hb dX6_shift_15 (by decide) ?_
      refine lv_istore (lv' := [(9, .int (-1)), (8, .int r_3), (0, .ref (h 0)), (1, .int hd), (2, .long jj), (4, .int g_), (5, .int q_), (6, .long v)]) hx hb dX6_shift_28 hl (by decide) rfl (fun ls hl => ?_)
      refine lv_iload hx hb dX6_shift_30 (lv_at hl 0 rfl) ?_
      refine lv_if_ge (tgt := 36) hx hb dX6_shift_32 (by decide) (fun c_69 => ?_) (fun c_69 => ?_)
      · skip
        have ic_69 : (0 : Int) ≤ (-1) := ic_le kI_0 kI_m1 c_69
        omega
      · skip
        have ic_69 : (0 : Int) > (-1) := ic_nle kI_0 kI_m1 c_69
        exact m_vret hx hb hr hlk hC hH (fun _ => (0, 0)) ⟨hfr, by rw [show (pShf T σ hd.toNatClampNeg jj.toInt.toNat g_.toNatClampNeg q_.toNatClampNeg Y) = ask T σ hd.toNatClampNeg jj.toInt.toNat 3 from thn_1 a01]; exact ⟨_, _, hM, hR, hac_67, hth_67⟩⟩ (Nat.le_of_ble_eq_true rfl) (Nat.le_of_ble_eq_true rfl) dX6_shift_35
