set_option maxHeartbeats 4000000 in
set_option maxRecDepth 100000 in
theorem c_X6_newRow (l : Launch) (G : mG) (h : Nat → Nat) (n : Nat) (c0 : tC) (I : Nat → Nat → Int32) (J : Nat → Nat → Int64) (f : mF) (hM : MEM G h n c0 I J f) (j q : Int32) (hjj : 0 ≤ j.toInt ∧ j.toInt < 192) : Met l yX6_newRow wsX6_newRow ({ frames := 0, cells := 0, slots := 0, locals := 0 }) (va_Pc [.ref (h 0), .int j, .int q] (mW G f)) (va_Qv (fun (u : mS) => frM h f u.2 ∧ ∃ it2 : Nat → Int32, MEM G h n c0 (va_up (va_up I 4 (upd (I 4) (7872 + j.toNatClampNeg) q)) 5 it2) J u.2 ∧ ∀ x, it2 x = if 8 * (7872 + j.toNatClampNeg) ≤ x ∧ x < 8 * (7872 + j.toNatClampNeg) + 8 then 0 else I 5 x) (fun (u : mS) t => mW G u.2 t) (mA G)) 0 0 (mA G) := by
  refine mMet [.ref (h 0), .int j, .int q] (cc := cX6_newRow) (maxL := 4) (ret := none) (by decide) rfl (Nat.le_of_ble_eq_true rfl) ?_
  intro p e s m below meth c ls hx hb hr hml hts hown hlk hnm hC hH hl
  have hl : lv_has ls 4 [(0, .ref (h 0)), (1, .int j), (2, .int q)] := hl
  have hfr : frM h f f := frM.rf
  have cl_j := ic_clN (rfl : j.toInt = _) (by omega)
  refine lv_aload_n hx hb dX6_newRow_0 rfl (lv_at hl 0 rfl) ?_
  have F_1 : f (h 0) = some (.inr (6, [.int (nI n), .ref (h 1), .int c0.1, .ref (h 3), .ref (h 4), .ref (h 5), .ref (h 6), .int c0.2.1, .ref (h 8), .ref (h 9), .ref (h 10), .ref (h 11), .ref (h 12), .ref (h 13), .ref (h 14), .ref (h 15), .int c0.2.2.1, .long c0.2.2.2.1, .int c0.2.2.2.2.1, .int c0.2.2.2.2.2.1, .ref (h 20), .ref (h 21), .int c0.2.2.2.2.2.2.1, .ref (h 23), .ref (h 24), .int c0.2.2.2.2.2.2.2.1, .ref (h 26), .ref (h 27), .int c0.2.2.2.2.2.2.2.2.1, .int c0.2.2.2.2.2.2.2.2.2])) := hM.1
  refine m_get (ci := 6) (v := .ref (h 4)) (C := RX6) (T := TX6) (N := 30) hx hb hC hH hts in_X6_newRow_X6 hown F_1 rfl 4 (by decide) (hts (.fieldLink RX6 17 "LazyStateModel" "sizes" "[I") (by decide +kernel)) rfl dX6_newRow_1 ?_
  refine lv_sipush (v := 7872) hx hb dX6_newRow_4 (by decide) ?_
  refine lv_iload_n hx hb dX6_newRow_7 rfl (lv_at hl 1 rfl) ?_
  refine lv_iadd hx hb dX6_newRow_8 ?_
  refine lv_topi (fun x_2 ex_2 => ?_)
  have ix_2 : x_2.toInt = 7872 + j.toInt := ic_add ex_2 kI_7872 rfl (by omega) (by omega)
  refine lv_iload_n hx hb dX6_newRow_9 rfl (lv_at hl 2 rfl) ?_
  have hg_3 : f (h 4) = some (.inl (gk G 0, 8064, .inl (I 4))) := hM.2.1 4 (by decide) rfl
  refine m_iast hx hb hC hH hg_3 (vp_in_iff.mpr ⟨by omega, by omega⟩) dX6_newRow_10 (fun H locs hH => ?_)
  obtain ⟨f_4, ef_4⟩ : ∃ zz_ : mF, zz_ = va_up f (h 4) (some (.inl (gk G 0, 8064, .inl (upd (I 4) x_2.toNatClampNeg q)))) := ⟨_, rfl⟩
  rw [← ef_4] at hH
  have hM : MEM G h n c0 (va_up I 4 (upd (I 4) x_2.toNatClampNeg q)) J f_4 := hM.setI 4 (by decide) rfl ef_4
  have hfr := hfr.up 4 (by decide) ef_4
  have nn_5 : x_2.toNatClampNeg = (7872 + j.toNatClampNeg) := by have := ic_clN (rfl : x_2.toInt = _) (by omega); omega
  rw [nn_5] at hM
  refine lv_iconst (v := 0) hx hb dX6_newRow_11 (by decide) ?_
  refine lv_istore_n (lv' := [(3, .int 0), (0, .ref (h 0)), (1, .int j), (2, .int q)]) hx hb dX6_newRow_12 rfl hl (by decide) rfl (fun ls hl => ?_)
  have loop_13 : ∀ (fuel_ : Nat) (k3 : Int32) (fL : mF) (itL : Nat → Int32) (h0_ : 0 ≤ k3.toInt) (h1_ : k3.toInt ≤ 8) (hfr : frM h f fL) (hM : MEM G h n c0 (va_up (va_up I 4 (upd (I 4) (7872 + j.toNatClampNeg) q)) 5 itL) J fL) (hz : ∀ x, itL x = if 8 * (7872 + j.toNatClampNeg) ≤ x ∧ x < 8 * (7872 + j.toNatClampNeg) + k3.toNatClampNeg then 0 else I 5 x) (_ : ((8 : Int) - k3.toInt).toNat < fuel_) (H : Heap) (locs : List Loc) (ls : Array Slot) (_ : mH G s fL H locs) (_ : lv_has ls 4 [(0, .ref (h 0)), (1, .int j), (2, .int q), (3, .int k3)]), W p l e ({ frames := 0, cells := 0, slots := 0, locals := 0 } : Room) s m ([.ref (h 0), .int j, .int q] : List Value).toArray below meth c H locs 0 0 (MQ below (va_Qv (fun (u : mS) => frM h f u.2 ∧ ∃ it2 : Nat → Int32, MEM G h n c0 (va_up (va_up I 4 (upd (I 4) (7872 + j.toNatClampNeg) q)) 5 it2) J u.2 ∧ ∀ x, it2 x = if 8 * (7872 + j.toNatClampNeg) ≤ x ∧ x < 8 * (7872 + j.toNatClampNeg) + 8 then 0 else I 5 x) (fun (u : mS) t => mW G u.2 t) (mA G)) ([.ref (h 0), .int j, .int q] : List Value).toArray s 0 0 (mA G)) (F0 m 13 ls []) := by
    intro N_13
    induction N_13 with
    | zero => intro k3 fL itL h0_ h1_ hfr hM hz hN; omega
    | succ N_13 ih_13 =>
      intro k3 fL itL h0_ h1_ hfr hM hz hN_13 H locs ls hH hl
      refine lv_iload_n hx hb dX6_newRow_13 rfl (lv_at hl 3 rfl) ?_
      refine lv_bipush (v := 8) hx hb dX6_newRow_14 (by decide) ?_
      refine lv_icmp_ge (tgt := 41) hx hb dX6_newRow_16 (by decide) (fun c_6 => ?_) (fun c_6 => ?_)
      · skip
        have ic_6 : (8 : Int) ≤ k3.toInt := ic_le kI_8 rfl c_6
        exact m_vret hx hb hr hlk hC hH (fun _ => (0, 0)) ⟨hfr, _, hM, by have hk_ : k3.toNatClampNeg = 8 := (by have := ic_clN (rfl : k3.toInt = _) (by omega); omega); rw [hk_] at hz; exact hz⟩ (Nat.le_of_ble_eq_true rfl) (Nat.le_of_ble_eq_true rfl) dX6_newRow_41
      · skip
        have ic_6 : (8 : Int) > k3.toInt := ic_nle kI_8 rfl c_6
        refine lv_aload_n hx hb dX6_newRow_19 rfl (lv_at hl 0 rfl) ?_
        have F_7 : fL (h 0) = some (.inr (6, [.int (nI n), .ref (h 1), .int c0.1, .ref (h 3), .ref (h 4), .ref (h 5), .ref (h 6), .int c0.2.1, .ref (h 8), .ref (h 9), .ref (h 10), .ref (h 11), .ref (h 12), .ref (h 13), .ref (h 14), .ref (h 15), .int c0.2.2.1, .long c0.2.2.2.1, .int c0.2.2.2.2.1, .int c0.2.2.2.2.2.1, .ref (h 20), .ref (h 21), .int c0.2.2.2.2.2.2.1, .ref (h 23), .ref (h 24), .int c0.2.2.2.2.2.2.2.1, .ref (h 26), .ref (h 27), .int c0.2.2.2.2.2.2.2.2.1, .int c0.2.2.2.2.2.2.2.2.2])) := hM.1
        refine m_get (ci := 6) (v := .ref (h 5)) (C := RX6) (T := TX6) (N := 30) hx hb hC hH hts in_X6_newRow_X6 hown F_7 rfl 5 (by decide) (hts (.fieldLink RX6 21 "LazyStateModel" "items" "[I") (by decide +kernel)) rfl dX6_newRow_20 ?_
        refine lv_bipush (v := 8) hx hb dX6_newRow_23 (by decide) ?_
        refine lv_sipush (v := 7872) hx hb dX6_newRow_25 (by decide) ?_
        refine lv_iload_n hx hb dX6_newRow_28 rfl (lv_at hl 1 rfl) ?_
        refine lv_iadd hx hb dX6_newRow_29 ?_
        refine lv_topi (fun x_8 ex_8 => ?_)
        have ix_8 : x_8.toInt = 7872 + j.toInt := ic_add ex_8 kI_7872 rfl (by omega) (by omega)
        refine lv_imul hx hb dX6_newRow_30 ?_
        refine lv_topi (fun x_9 ex_9 => ?_)
        have ix_9 : x_9.toInt = 8 * x_8.toInt := ic_mul ex_9 kI_8 rfl (by omega) (by omega)
        refine lv_iload_n hx hb dX6_newRow_31 rfl (lv_at hl 3 rfl) ?_
        refine lv_iadd hx hb dX6_newRow_32 ?_
        refine lv_topi (fun x_10 ex_10 => ?_)
        have ix_10 : x_10.toInt = x_9.toInt + k3.toInt := ic_add ex_10 rfl rfl (by omega) (by omega)
        refine lv_iconst (v := 0) hx hb dX6_newRow_33 (by decide) ?_
        have hg_11 : fL (h 5) = some (.inl (gk G 0, 64512, .inl itL)) := hM.2.1 5 (by decide) rfl
        refine m_iast hx hb hC hH hg_11 (vp_in_iff.mpr ⟨by omega, by omega⟩) dX6_newRow_34 (fun H locs hH => ?_)
        obtain ⟨f_12, ef_12⟩ : ∃ zz_ : mF, zz_ = va_up fL (h 5) (some (.inl (gk G 0, 64512, .inl (upd itL x_10.toNatClampNeg 0)))) := ⟨_, rfl⟩
        rw [← ef_12] at hH
        have hM : MEM G h n c0 (va_up (va_up (va_up I 4 (upd (I 4) (7872 + j.toNatClampNeg) q)) 5 itL) 5 (upd itL x_10.toNatClampNeg 0)) J f_12 := hM.setI 5 (by decide) rfl ef_12
        have hfr := hfr.up 5 (by decide) ef_12
        have nn_13 : x_10.toNatClampNeg = 8 * (7872 + j.toNatClampNeg) + k3.toNatClampNeg := by have := ic_clN (rfl : x_10.toInt = _) (by omega); have := ic_clN (rfl : k3.toInt = _) (by omega); omega
        rw [nn_13, bx_uu] at hM
        have hz_ : ∀ x, upd itL (8 * (7872 + j.toNatClampNeg) + k3.toNatClampNeg) 0 x = if 8 * (7872 + j.toNatClampNeg) ≤ x ∧ x < 8 * (7872 + j.toNatClampNeg) + (k3.toNatClampNeg + 1) then 0 else I 5 x := zr_step hz
        obtain ⟨x_14, ex_14⟩ : ∃ y : Int32, y = k3 + 1 := ⟨_, rfl⟩
        have ix_14 : x_14.toInt = k3.toInt + 1 := ic_add ex_14 rfl kI_1 (by omega) (by omega)
        refine lv_iinc (v := x_14) (lv' := [(3, .int x_14), (0, .ref (h 0)), (1, .int j), (2, .int q)]) hx hb dX6_newRow_35 hl (k := 3) rfl (by rw [ex_14]; rfl) (by decide) rfl (fun ls hl => ?_)
        refine lv_goto (tgt := 13) hx hb dX6_newRow_38 (by decide) ?_
        exact ih_13 x_14 f_12 (upd itL (8 * (7872 + j.toNatClampNeg) + k3.toNatClampNeg) 0) (by omega) (by omega) hfr hM (by rw [show x_14.toNatClampNeg = k3.toNatClampNeg + 1 from by have := ic_clN (rfl : x_14.toInt = _) (by omega); have := ic_clN (rfl : k3.toInt = _) (by omega); omega]; exact hz_) (by omega) _ _ _ hH (lv_sub hl [1, 2, 3, 0] rfl)
  exact loop_13 (((8 : Int) - 0).toNat + 1) 0 f_4 (I 5) (by have := kI_0; omega) (by have := kI_0; omega) hfr (hM.idI 5) (fun x => by rw [show (0 : Int32).toNatClampNeg = 0 from rfl, if_neg (by omega)]) (by have := kI_0; omega) _ _ _ hH (lv_sub hl [1, 2, 3, 0] rfl)
set_option maxHeartbeats 4000000 in
set_option maxRecDepth 100000 in
theorem c_X6_itemOf_n (l : Launch) (G : mG) (h : Nat → Nat) (n : Nat) (c0 : tC) (I : Nat → Nat → Int32) (J : Nat → Nat → Int64) (f : mF) (hM : MEM G h n c0 I J f) (lf : Int32) (v : Int64) (hl_ : lf.toInt < 0) : Met l yX6_itemOf wsX6_itemOf ({ frames := 1, cells := 0, slots := 0, locals := 25 }) (va_Pc [.ref (h 0), .int lf, .long v] (mW G f)) (va_Qi (fun (r : Int32) (u : mS) => u.2 = f ∧ r.toInt = -1) (fun (u : mS) t => mW G u.2 t) (mA G)) 0 0 (mA G) := by
  refine mMet [.ref (h 0), .int lf, .long v] (cc := cX6_itemOf) (maxL := 4) (ret := (some .int)) (by decide) rfl (Nat.le_of_ble_eq_true rfl) ?_
  intro p e s m below meth c ls hx hb hr hml hts hown hlk hnm hC hH hl
  have hl : lv_has ls 4 [(0, .ref (h 0)), (1, .int lf), (2, .long v)] := hl
  have hfr : frM h f f := frM.rf
  refine lv_iload_n hx hb dX6_itemOf_0 rfl (lv_at hl 1 rfl) ?_
  refine lv_if_ge (tgt := 6) hx hb dX6_itemOf_1 (by decide) (fun c_1 => ?_) (fun c_1 => ?_)
  · skip
    have ic_1 : (0 : Int) ≤ lf.toInt := ic_le kI_0 rfl c_1
    omega
  · skip
    have ic_1 : (0 : Int) > lf.toInt := ic_nle kI_0 rfl c_1
    refine lv_iconst (v := (-1)) hx hb dX6_itemOf_4 (by decide) ?_
    exact m_iret (v := (-1)) hx hb hr hlk hC hH (fun _ => (0, 0)) ⟨rfl, kI_m1⟩ (Nat.le_of_ble_eq_true rfl) (Nat.le_of_ble_eq_true rfl) dX6_itemOf_5
set_option maxHeartbeats 4000000 in
set_option maxRecDepth 100000 in
theorem c_X6_itemOf (l : Launch) (G : mG) (h : Nat → Nat) (n : Nat) (T z : Nat → Nat) (A : Nat → tA) (hg : Nat) (ver : Nat → Nat → tB) (c0q : Nat → Bool) (fe0 : Int32) (tms : Nat → Int32) (ca : Int32) (wl : List Nat) (wh : Int32) (ac : Nat) (sx : Int32) (σ : tS) (f : mF) (hI : FM G h n T z A hg ver (cqL c0q σ) (feL fe0 c0q σ) tms ca wl wh ac 0 sx σ f) (hn0 : 0 < n) (lf : Int32) (v : Int64) (o j : Nat) (ho : o < n) (hj : j < 8) (hs : srt (T o) j = 3) (hlf : lf.toInt = 8 * (o : Int) + (j : Int)) : Met l yX6_itemOf wsX6_itemOf ({ frames := 1, cells := 0, slots := 0, locals := 25 }) (va_Pc [.ref (h 0), .int lf, .long v] (mW G f)) (va_Qi (fun (r : Int32) (u : mS) => frM h f u.2 ∧ FM G h n T z A hg ver (cqL c0q σ) (feL fe0 c0q σ) tms ca wl wh ac (iRf (bdS σ o) j v) sx σ u.2 ∧ ((iRf (bdS σ o) j v) = 0 → r.toInt = 8 * (192 * 41 + 8 * (o : Int) + (j : Int)) + v.toInt) ∧ ((iRf (bdS σ o) j v) ≠ 0 → r.toInt = -1)) (fun (u : mS) t => mW G u.2 t) (mA G)) 0 0 (mA G) := by
  refine mMet [.ref (h 0), .int lf, .long v] (cc := cX6_itemOf) (maxL := 4) (ret := (some .int)) (by decide) rfl (Nat.le_of_ble_eq_true rfl) ?_
  intro p e s m below meth c ls hx hb hr hml hts hown hlk hnm hC hH hl
  have hl : lv_has ls 4 [(0, .ref (h 0)), (1, .int lf), (2, .long v)] := hl
  have hI0_ := hI
  have hfr : frM h f f := frM.rf
  obtain ⟨I_1, J_1, hM, hR, hac_1, hth_1⟩ := hI
  have hg_1 := hR.hg40
  have n24_1 := hR.n24
  have tl_1 := len_b hR.ok.2.2.1
  have wl_1 := hR.wl192
  have hgI_1 : (nI hg).toInt = ((hg : Nat) : Int) := nI_toInt (by omega)
  have tmI_1 : (nI ((trS σ).length)).toInt = (((trS σ).length : Nat) : Int) := nI_toInt (by omega)
  have wmI_1 : (nI wl.length).toInt = ((wl.length : Nat) : Int) := nI_toInt (by omega)
  have acI_1 : (nI ac).toInt = ((ac : Nat) : Int) := nI_toInt (by omega)
  have thI_1 : (nI 0).toInt = ((0 : Nat) : Int) := nI_toInt (by omega)
  have nIn_1 : (nI n).toInt = ((n : Nat) : Int) := nI_toInt (by omega)
  have hb8_ := ((hR.ok.1 o ho j hj).2.2 hs).1
  refine lv_iload_n hx hb dX6_itemOf_0 rfl (lv_at hl 1 rfl) ?_
  refine lv_if_ge (tgt := 6) hx hb dX6_itemOf_1 (by decide) (fun c_2 => ?_) (fun c_2 => ?_)
  · skip
    have ic_2 : (0 : Int) ≤ lf.toInt := ic_le kI_0 rfl c_2
    refine lv_aload_n hx hb dX6_itemOf_6 rfl (lv_at hl 0 rfl) ?_
    have F_3 : f (h 0) = some (.inr (6, [.int (nI n), .ref (h 1), .int (nI hg), .ref (h 3), .ref (h 4), .ref (h 5), .ref (h 6), .int (feL fe0 c0q σ), .ref (h 8), .ref (h 9), .ref (h 10), .ref (h 11), .ref (h 12), .ref (h 13), .ref (h 14), .ref (h 15), .int ca, .long (gfS σ), .int wh, .int (nI ((trS σ).length)), .ref (h 20), .ref (h 21), .int (nI wl.length), .ref (h 23), .ref (h 24), .int (nI ac), .ref (h 26), .ref (h 27), .int (nI 0), .int sx])) := hM.1
    refine m_get (ci := 6) (v := .ref (h 4)) (C := RX6) (T := TX6) (N := 30) hx hb hC hH hts in_X6_itemOf_X6 hown F_3 rfl 4 (by decide) (hts (.fieldLink RX6 17 "LazyStateModel" "sizes" "[I") (by decide +kernel)) rfl dX6_itemOf_7 ?_
    refine lv_iload_n hx hb dX6_itemOf_10 rfl (lv_at hl 1 rfl) ?_
    refine m_goi hH (va_runS (As := [.int lf]) (rest := [.ref (h 4)]) ⟨hx, hb, hml, hown, hts⟩ (c_X6_at l G f lf (by exact ⟨by omega, by omega⟩)) (va_cwS 1 hts gX6_itemOf_X6_at rfl rfl rfl (by decide +kernel) ⟨Nat.le_of_ble_eq_true rfl, Nat.le_of_ble_eq_true rfl⟩) (m_preS hC hH) rfl rfl hl.1 rfl (lv_room (Nat.le_of_ble_eq_true rfl)) dX6_itemOf_11 ⟨Nat.le_of_ble_eq_true rfl, Nat.le_of_ble_eq_true rfl⟩) (fun r_4 rho_6 f_5 H locs hw hH => ?_)
    obtain ⟨hu, hr_4⟩ := hw
    have hu : f_5 = f := hu
    rw [hu] at hH
    have hg_7 : f (h 4) = some (.inl (gk G 0, 8064, .inl (I_1 4))) := hM.2.1 4 (by decide) rfl
    refine m_iald hx hb hC hH hg_7 (vp_in_iff.mpr ⟨by omega, by omega⟩) dX6_itemOf_14 ?_
    refine lv_topi (fun x_8 ex_8 => ?_)
    have nn_9 : r_4.toNatClampNeg = (192 * 41 + 8 * o + j) := by have := ic_clN (rfl : r_4.toInt = _) (by omega); omega
    have sz_x_8 : x_8.toInt = ((bdS σ o).1 j).toInt := by rw [ex_8, nn_9]; exact hR.gsz ho hj hs
    refine lv_bipush (v := (-3)) hx hb dX6_itemOf_15 (by decide) ?_
    refine lv_icmp_ne (tgt := 27) hx hb dX6_itemOf_17 (by decide) (fun c_10 => ?_) (fun c_10 => ?_)
    · skip
      have ic_10 : (x_8.toInt : Int) ≠ (-3) := ic_ne rfl kI_m3 c_10
      refine lv_lload_n hx hb dX6_itemOf_27 rfl (lv_at hl 2 rfl) ?_
      refine lv_lconst (v := 0) hx hb dX6_itemOf_28 (by decide) ?_
      refine lv_aload_n hx hb dX6_itemOf_29 rfl (lv_at hl 0 rfl) ?_
      refine m_get (ci := 6) (v := .ref (h 4)) (C := RX6) (T := TX6) (N := 30) hx hb hC hH hts in_X6_itemOf_X6 hown F_3 rfl 4 (by decide) (hts (.fieldLink RX6 17 "LazyStateModel" "sizes" "[I") (by decide +kernel)) rfl dX6_itemOf_30 ?_
      refine lv_iload_n hx hb dX6_itemOf_33 rfl (lv_at hl 1 rfl) ?_
      refine m_goi hH (va_runS (As := [.int lf]) (rest := [.ref (h 4), .long 0, .long v]) ⟨hx, hb, hml, hown, hts⟩ (c_X6_at l G f lf (by exact ⟨by omega, by omega⟩)) (va_cwS 1 hts gX6_itemOf_X6_at rfl rfl rfl (by decide +kernel) ⟨Nat.le_of_ble_eq_true rfl, Nat.le_of_ble_eq_true rfl⟩) (m_preS hC hH) rfl rfl hl.1 rfl (lv_room (Nat.le_of_ble_eq_true rfl)) dX6_itemOf_34 ⟨Nat.le_of_ble_eq_true rfl, Nat.le_of_ble_eq_true rfl⟩) (fun r_11 rho_13 f_12 H locs hw hH => ?_)
      obtain ⟨hu, hr_11⟩ := hw
      have hu : f_12 = f := hu
      rw [hu] at hH
      refine m_iald hx hb hC hH hg_7 (vp_in_iff.mpr ⟨by omega, by omega⟩) dX6_itemOf_37 ?_
      refine lv_topi (fun x_14 ex_14 => ?_)
      have nn_15 : r_11.toNatClampNeg = (192 * 41 + 8 * o + j) := by have := ic_clN (rfl : r_11.toInt = _) (by omega); omega
      have sz_x_14 : x_14.toInt = ((bdS σ o).1 j).toInt := by rw [ex_14, nn_15]; exact hR.gsz ho hj hs
      refine lv_i2l hx hb dX6_itemOf_38 rfl ?_
      refine lv_topl (fun y_16 ey_16 => ?_)
      have iy_16 : y_16.toInt = x_14.toInt := lc_i2l ey_16 rfl
      have gy_16 := ic_rng x_14
      refine lv_lconst (v := 1) hx hb dX6_itemOf_39 (by decide) ?_
      refine lv_lsub hx hb dX6_itemOf_40 ?_
      refine lv_topl (fun y_17 ey_17 => ?_)
      have iy_17 : y_17.toInt = y_16.toInt - 1 := lc_sub ey_17 rfl kJ_1 (by omega) (by omega)
      refine m_goi hH (va_runS (As := [.long v, .long 0, .long y_17]) (rest := []) ⟨hx, hb, hml, hown, hts⟩ (c_X6_in l G f v 0 y_17) (va_cwS 3 hts gX6_itemOf_X6_in rfl rfl rfl (by decide +kernel) ⟨Nat.le_of_ble_eq_true rfl, Nat.le_of_ble_eq_true rfl⟩) (m_preS hC hH) rfl rfl hl.1 rfl (lv_room (Nat.le_of_ble_eq_true rfl)) dX6_itemOf_41 ⟨Nat.le_of_ble_eq_true rfl, Nat.le_of_ble_eq_true rfl⟩) (fun r_18 rho_20 f_19 H locs hw hH => ?_)
      obtain ⟨hu, hr_18⟩ := hw
      have hu : f_19 = f := hu
      rw [hu] at hH
      have hr_18 : (r_18.toInt = 1 ∧ 0 ≤ v.toInt ∧ v.toInt ≤ y_17.toInt) ∨ (r_18.toInt = 0 ∧ (v.toInt < 0 ∨ y_17.toInt < v.toInt)) := by have q0 := (rfl : v.toInt = _); have q1 := kJ_0; have q2 := (rfl : y_17.toInt = _); omega
      refine lv_if_ne (tgt := 54) hx hb dX6_itemOf_44 (by decide) (fun c_21 => ?_) (fun c_21 => ?_)
      · skip
        have ic_21 : (r_18.toInt : Int) ≠ 0 := ic_ne rfl kI_0 c_21
        have ir_ : iRf (bdS σ o) j v = 0 := iRf_y (by omega) (by omega) (by omega)
        refine lv_bipush (v := 8) hx hb dX6_itemOf_54 (by decide) ?_
        refine lv_iload_n hx hb dX6_itemOf_56 rfl (lv_at hl 1 rfl) ?_
        refine m_goi hH (va_runS (As := [.int lf]) (rest := [.int 8]) ⟨hx, hb, hml, hown, hts⟩ (c_X6_at l G f lf (by exact ⟨by omega, by omega⟩)) (va_cwS 1 hts gX6_itemOf_X6_at rfl rfl rfl (by decide +kernel) ⟨Nat.le_of_ble_eq_true rfl, Nat.le_of_ble_eq_true rfl⟩) (m_preS hC hH) rfl rfl hl.1 rfl (lv_room (Nat.le_of_ble_eq_true rfl)) dX6_itemOf_57 ⟨Nat.le_of_ble_eq_true rfl, Nat.le_of_ble_eq_true rfl⟩) (fun r_22 rho_24 f_23 H locs hw hH => ?_)
        obtain ⟨hu, hr_22⟩ := hw
        have hu : f_23 = f := hu
        rw [hu] at hH
        refine lv_imul hx hb dX6_itemOf_60 ?_
        refine lv_topi (fun x_25 ex_25 => ?_)
        have ix_25 : x_25.toInt = 8 * r_22.toInt := ic_mul ex_25 kI_8 rfl (by omega) (by omega)
        refine lv_lload_n hx hb dX6_itemOf_61 rfl (lv_at hl 2 rfl) ?_
        refine lv_l2i hx hb dX6_itemOf_62 rfl ?_
        refine lv_topi (fun x_26 ex_26 => ?_)
        have ix_26 : x_26.toInt = v.toInt := ic_l2i ex_26 rfl (by omega) (by omega)
        refine lv_iadd hx hb dX6_itemOf_63 ?_
        refine lv_topi (fun x_27 ex_27 => ?_)
        have ix_27 : x_27.toInt = x_25.toInt + x_26.toInt := ic_add ex_27 rfl rfl (by omega) (by omega)
        exact m_iret (v := x_27) hx hb hr hlk hC hH (fun _ => (0, 0)) ⟨hfr, by rw [ir_]; exact ⟨_, _, hM, hR, hac_1, by omega⟩, fun _ => by omega, fun z_ => absurd ir_ z_⟩ (Nat.le_of_ble_eq_true rfl) (Nat.le_of_ble_eq_true rfl) dX6_itemOf_64
      · skip
        have ic_21 : (r_18.toInt : Int) = 0 := ic_eq rfl kI_0 c_21
        have ir_ : iRf (bdS σ o) j v = 3 := iRf_n (by omega) (by omega)
        refine lv_aload_n hx hb dX6_itemOf_47 rfl (lv_at hl 0 rfl) ?_
        refine lv_iconst (v := 3) hx hb dX6_itemOf_48 (by decide) ?_
        refine m_put (ci := 6) (v := .int 3) (C := RX6) (T := TX6) (N := 30) hx hb hC hH hts in_X6_itemOf_X6 tyX6 tyX6_ok nmX6 hown F_3 rfl 28 (by decide) (hts (.fieldLink RX6 155 "LazyStateModel" "threw" "I") (by decide +kernel)) rfl rfl rfl (Nat.le_of_ble_eq_true rfl) dX6_itemOf_49 (fun H locs hH => ?_)
        have hH : mH G s (va_up f (h 0) (some (.inr (6, [.int (nI n), .ref (h 1), .int (nI hg), .ref (h 3), .ref (h 4), .ref (h 5), .ref (h 6), .int (feL fe0 c0q σ), .ref (h 8), .ref (h 9), .ref (h 10), .ref (h 11), .ref (h 12), .ref (h 13), .ref (h 14), .ref (h 15), .int ca, .long (gfS σ), .int wh, .int (nI ((trS σ).length)), .ref (h 20), .ref (h 21), .int (nI wl.length), .ref (h 23), .ref (h 24), .int (nI ac), .ref (h 26), .ref (h 27), .int 3, .int sx])))) H locs := hH
        obtain ⟨f_28, ef_28⟩ : ∃ zz_ : mF, zz_ = va_up f (h 0) (some (.inr (6, [.int (nI n), .ref (h 1), .int (nI hg), .ref (h 3), .ref (h 4), .ref (h 5), .ref (h 6), .int (feL fe0 c0q σ), .ref (h 8), .ref (h 9), .ref (h 10), .ref (h 11), .ref (h 12), .ref (h 13), .ref (h 14), .ref (h 15), .int ca, .long (gfS σ), .int wh, .int (nI ((trS σ).length)), .ref (h 20), .ref (h 21), .int (nI wl.length), .ref (h 23), .ref (h 24), .int (nI ac), .ref (h 26), .ref (h 27), .int 3, .int sx]))) := ⟨_, rfl⟩
        rw [← ef_28] at hH
        have hM : MEM G h n (nI hg, (feL fe0 c0q σ), ca, (gfS σ), wh, nI ((trS σ).length), nI wl.length, nI ac, 3, sx) I_1 J_1 f_28 := hM.set0 ef_28
        have hfr := hfr.up 0 (by decide) ef_28
        refine lv_iconst (v := (-1)) hx hb dX6_itemOf_52 (by decide) ?_
        exact m_iret (v := (-1)) hx hb hr hlk hC hH (fun _ => (0, 0)) ⟨hfr, by rw [ir_]; exact ⟨_, _, hM, hR, hac_1, by omega⟩, fun z_ => (by rw [ir_] at z_; cases z_), fun _ => kI_m1⟩ (Nat.le_of_ble_eq_true rfl) (Nat.le_of_ble_eq_true rfl) dX6_itemOf_53
    · skip
      have ic_10 : (x_8.toInt : Int) = (-3) := ic_eq rfl kI_m3 c_10
      have ir_ : iRf (bdS σ o) j v = 1 := iRf_1 (by omega)
      refine lv_aload_n hx hb dX6_itemOf_20 rfl (lv_at hl 0 rfl) ?_
      refine lv_iconst (v := 1) hx hb dX6_itemOf_21 (by decide) ?_
      refine m_put (ci := 6) (v := .int 1) (C := RX6) (T := TX6) (N := 30) hx hb hC hH hts in_X6_itemOf_X6 tyX6 tyX6_ok nmX6 hown F_3 rfl 28 (by decide) (hts (.fieldLink RX6 155 "LazyStateModel" "threw" "I") (by decide +kernel)) rfl rfl rfl (Nat.le_of_ble_eq_true rfl) dX6_itemOf_22 (fun H locs hH => ?_)
      have hH : mH G s (va_up f (h 0) (some (.inr (6, [.int (nI n), .ref (h 1), .int (nI hg), .ref (h 3), .ref (h 4), .ref (h 5), .ref (h 6), .int (feL fe0 c0q σ), .ref (h 8), .ref (h 9), .ref (h 10), .ref (h 11), .ref (h 12), .ref (h 13), .ref (h 14), .ref (h 15), .int ca, .long (gfS σ), .int wh, .int (nI ((trS σ).length)), .ref (h 20), .ref (h 21), .int (nI wl.length), .ref (h 23), .ref (h 24), .int (nI ac), .ref (h 26), .ref (h 27), .int 1, .int sx])))) H locs := hH
      obtain ⟨f_29, ef_29⟩ : ∃ zz_ : mF, zz_ = va_up f (h 0) (some (.inr (6, [.int (nI n), .ref (h 1), .int (nI hg), .ref (h 3), .ref (h 4), .ref (h 5), .ref (h 6), .int (feL fe0 c0q σ), .ref (h 8), .ref (h 9), .ref (h 10), .ref (h 11), .ref (h 12), .ref (h 13), .ref (h 14), .ref (h 15), .int ca, .long (gfS σ), .int wh, .int (nI ((trS σ).length)), .ref (h 20), .ref (h 21), .int (nI wl.length), .ref (h 23), .ref (h 24), .int (nI ac), .ref (h 26), .ref (h 27), .int 1, .int sx]))) := ⟨_, rfl⟩
      rw [← ef_29] at hH
      have hM : MEM G h n (nI hg, (feL fe0 c0q σ), ca, (gfS σ), wh, nI ((trS σ).length), nI wl.length, nI ac, 1, sx) I_1 J_1 f_29 := hM.set0 ef_29
      have hfr := hfr.up 0 (by decide) ef_29
      refine lv_iconst (v := (-1)) hx hb dX6_itemOf_25 (by decide) ?_
      exact m_iret (v := (-1)) hx hb hr hlk hC hH (fun _ => (0, 0)) ⟨hfr, by rw [ir_]; exact ⟨_, _, hM, hR, hac_1, by omega⟩, fun z_ => (by rw [ir_] at z_; cases z_), fun _ => kI_m1⟩ (Nat.le_of_ble_eq_true rfl) (Nat.le_of_ble_eq_true rfl) dX6_itemOf_26
  · skip
    have ic_2 : (0 : Int) > lf.toInt := ic_nle kI_0 rfl c_2
    omega
set_option maxHeartbeats 4000000 in
set_option maxRecDepth 100000 in
theorem c_X6_like (l : Launch) (G : mG) (h : Nat → Nat) (n : Nat) (T z : Nat → Nat) (A : Nat → tA) (hg : Nat) (ver : Nat → Nat → tB) (c0q : Nat → Bool) (fe0 : Int32) (tms : Nat → Int32) (ca : Int32) (wl : List Nat) (wh : Int32) (ac th : Nat) (sx : Int32) (σ : tS) (f : mF) (hI : FM G h n T z A hg ver (cqL c0q σ) (feL fe0 c0q σ) tms ca wl wh ac th sx σ f) (hn0 : 0 < n) (p_ q_ : Int32) (hp0 : p_.toInt = -3 ∨ (0 ≤ p_.toInt ∧ p_.toInt < n)) (hq0 : q_.toInt = -3 ∨ (0 ≤ q_.toInt ∧ q_.toInt < n)) : Met l yX6_like wsX6_like ({ frames := 1, cells := 0, slots := 0, locals := 24 }) (va_Pc [.ref (h 0), .int p_, .int q_] (mW G f)) (va_Qi (fun (r : Int32) (u : mS) => frM h f u.2 ∧ FM G h n T z A hg ver (cqL c0q ((lik T σ p_ q_).2)) (feL fe0 c0q ((lik T σ p_ q_).2)) tms ca wl wh ac th sx ((lik T σ p_ q_).2) u.2 ∧ ((r.toInt = 1 ∧ (lik T σ p_ q_).1 = true) ∨ (r.toInt = 0 ∧ (lik T σ p_ q_).1 = false))) (fun (u : mS) t => mW G u.2 t) (mA G)) 0 0 (mA G) := by
  refine mMet [.ref (h 0), .int p_, .int q_] (cc := cX6_like) (maxL := 5) (ret := (some .boolean)) (by decide) rfl (Nat.le_of_ble_eq_true rfl) ?_
  intro p e s m below meth c ls hx hb hr hml hts hown hlk hnm hC hH hl
  have hl : lv_has ls 5 [(0, .ref (h 0)), (1, .int p_), (2, .int q_)] := hl
  have hI0_ := hI
  have hfr : frM h f f := frM.rf
  obtain ⟨I_1, J_1, hM, hR, hac_1, hth_1⟩ := hI
  have hg_1 := hR.hg40
  have n24_1 := hR.n24
  have tl_1 := len_b hR.ok.2.2.1
  have wl_1 := hR.wl192
  have hgI_1 : (nI hg).toInt = ((hg : Nat) : Int) := nI_toInt (by omega)
  have tmI_1 : (nI ((trS σ).length)).toInt = (((trS σ).length : Nat) : Int) := nI_toInt (by omega)
  have wmI_1 : (nI wl.length).toInt = ((wl.length : Nat) : Int) := nI_toInt (by omega)
  have acI_1 : (nI ac).toInt = ((ac : Nat) : Int) := nI_toInt (by omega)
  have thI_1 : (nI th).toInt = ((th : Nat) : Int) := nI_toInt (by omega)
  have nIn_1 : (nI n).toInt = ((n : Nat) : Int) := nI_toInt (by omega)
  refine lv_iload_n hx hb dX6_like_0 rfl (lv_at hl 1 rfl) ?_
  refine lv_iload_n hx hb dX6_like_1 rfl (lv_at hl 2 rfl) ?_
  refine lv_icmp_ne (tgt := 7) hx hb dX6_like_2 (by decide) (fun c_2 => ?_) (fun c_2 => ?_)
  · skip
    have ic_2 : (p_.toInt : Int) ≠ q_.toInt := ic_ne rfl rfl c_2
    have cne_ : ¬ p_ = q_ := c_2
    refine lv_iload_n hx hb dX6_like_7 rfl (lv_at hl 1 rfl) ?_
    refine lv_if_lt (tgt := 30) hx hb dX6_like_8 (by decide) (fun c_3 => ?_) (fun c_3 => ?_)
    · skip
      have ic_3 : (p_.toInt : Int) < 0 := ic_lt rfl kI_0 c_3
      have m3_ : p_ = -3 := Int32.toInt_inj.mp (by have : (-3 : Int32).toInt = -3 := (by decide); omega)
      refine lv_iconst (v := 0) hx hb dX6_like_30 (by decide) ?_
      exact m_zret (v := 0) hx hb hr (by rfl) hlk hC hH (fun _ => (0, 0)) ⟨hfr, by rw [show (lik T σ p_ q_) = (false, σ) from (if_neg cne_).trans (if_pos (Or.inl m3_))]; exact ⟨⟨_, _, hM, hR, hac_1, hth_1⟩, Or.inr ⟨kI_0, rfl⟩⟩⟩ (Nat.le_of_ble_eq_true rfl) (Nat.le_of_ble_eq_true rfl) dX6_like_31
    · skip
      have ic_3 : (p_.toInt : Int) ≥ 0 := ic_nlt rfl kI_0 c_3
      refine lv_iload_n hx hb dX6_like_11 rfl (lv_at hl 2 rfl) ?_
      refine lv_if_lt (tgt := 30) hx hb dX6_like_12 (by decide) (fun c_4 => ?_) (fun c_4 => ?_)
      · skip
        have ic_4 : (q_.toInt : Int) < 0 := ic_lt rfl kI_0 c_4
        have m3_ : q_ = -3 := Int32.toInt_inj.mp (by have : (-3 : Int32).toInt = -3 := (by decide); omega)
        refine lv_iconst (v := 0) hx hb dX6_like_30 (by decide) ?_
        exact m_zret (v := 0) hx hb hr (by rfl) hlk hC hH (fun _ => (0, 0)) ⟨hfr, by rw [show (lik T σ p_ q_) = (false, σ) from (if_neg cne_).trans (if_pos (Or.inr (Or.inl m3_)))]; exact ⟨⟨_, _, hM, hR, hac_1, hth_1⟩, Or.inr ⟨kI_0, rfl⟩⟩⟩ (Nat.le_of_ble_eq_true rfl) (Nat.le_of_ble_eq_true rfl) dX6_like_31
      · skip
        have ic_4 : (q_.toInt : Int) ≥ 0 := ic_nlt rfl kI_0 c_4
        have cl_p := ic_clN (rfl : p_.toInt = _) (by omega)
        have cl_q := ic_clN (rfl : q_.toInt = _) (by omega)
        refine lv_aload_n hx hb dX6_like_15 rfl (lv_at hl 0 rfl) ?_
        have F_5 : f (h 0) = some (.inr (6, [.int (nI n), .ref (h 1), .int (nI hg), .ref (h 3), .ref (h 4), .ref (h 5), .ref (h 6), .int (feL fe0 c0q σ), .ref (h 8), .ref (h 9), .ref (h 10), .ref (h 11), .ref (h 12), .ref (h 13), .ref (h 14), .ref (h 15), .int ca, .long (gfS σ), .int wh, .int (nI ((trS σ).length)), .ref (h 20), .ref (h 21), .int (nI wl.length), .ref (h 23), .ref (h 24), .int (nI ac), .ref (h 26), .ref (h 27), .int (nI th), .int sx])) := hM.1
        refine m_get (ci := 6) (v := .ref (h 1)) (C := RX6) (T := TX6) (N := 30) hx hb hC hH hts in_X6_like_X6 hown F_5 rfl 1 (by decide) (hts (.fieldLink RX6 7 "LazyStateModel" "types" "[I") (by decide +kernel)) rfl dX6_like_16 ?_
        refine lv_iload_n hx hb dX6_like_19 rfl (lv_at hl 1 rfl) ?_
        have hg_6 : f (h 1) = some (.inl (gk G 0, 24, .inl (I_1 1))) := hM.2.1 1 (by decide) rfl
        refine m_iald hx hb hC hH hg_6 (vp_in_iff.mpr ⟨by omega, by omega⟩) dX6_like_20 ?_
        refine lv_topi (fun x_7 ex_7 => ?_)
        have ty_x_7 : x_7.toInt = ((T p_.toNatClampNeg : Nat) : Int) := by rw [ex_7, hR.ty (by omega)]; exact nI_toInt (by have := hR.T3 p_.toNatClampNeg; omega)
        refine lv_aload_n hx hb dX6_like_21 rfl (lv_at hl 0 rfl) ?_
        refine m_get (ci := 6) (v := .ref (h 1)) (C := RX6) (T := TX6) (N := 30) hx hb hC hH hts in_X6_like_X6 hown F_5 rfl 1 (by decide) (hts (.fieldLink RX6 7 "LazyStateModel" "types" "[I") (by decide +kernel)) rfl dX6_like_22 ?_
        refine lv_iload_n hx hb dX6_like_25 rfl (lv_at hl 2 rfl) ?_
        refine m_iald hx hb hC hH hg_6 (vp_in_iff.mpr ⟨by omega, by omega⟩) dX6_like_26 ?_
        refine lv_topi (fun x_8 ex_8 => ?_)
        have ty_x_8 : x_8.toInt = ((T q_.toNatClampNeg : Nat) : Int) := by rw [ex_8, hR.ty (by omega)]; exact nI_toInt (by have := hR.T3 q_.toNatClampNeg; omega)
        refine lv_icmp_eq (tgt := 32) hx hb dX6_like_27 (by decide) (fun c_9 => ?_) (fun c_9 => ?_)
        · skip
          have ic_9 : (x_7.toInt : Int) = x_8.toInt := ic_eq rfl rfl c_9
          have teq_ : T p_.toNatClampNeg = T q_.toNatClampNeg := by have a_ := ty_x_7; have b_ := ty_x_8; omega
          have lk_ : (lik T σ p_ q_) = (lkF (T p_.toNatClampNeg) p_.toNatClampNeg q_.toNatClampNeg 8 0 (sLd (sLd σ p_.toNatClampNeg) q_.toNatClampNeg)) := (if_neg cne_).trans (if_neg (fun z_ => z_.elim (fun y_ => by have z1_ := congrArg Int32.toInt y_; have : (-3 : Int32).toInt = -3 := (by decide); omega) (fun y_ => y_.elim (fun y_ => by have z1_ := congrArg Int32.toInt y_; have : (-3 : Int32).toInt = -3 := (by decide); omega) (fun y_ => y_ teq_))))
          refine lv_aload_n hx hb dX6_like_32 rfl (lv_at hl 0 rfl) ?_
          refine lv_iload_n hx hb dX6_like_33 rfl (lv_at hl 1 rfl) ?_
          have hI : FM G h n T z A hg ver (cqL c0q σ) (feL fe0 c0q σ) tms ca wl wh ac th sx σ f := ⟨_, _, hM, hR, hac_1, hth_1⟩
          refine m_gov hH (va_runV (As := [.int p_]) (rest := []) ⟨hx, hb, hml, hown, hts⟩ (c_X6_load l G h n T z A hg ver c0q fe0 tms ca wl wh ac th sx σ f hI hn0 p_ (by omega)) (cwV 1 hts gX6_like_X6_load rfl rfl rfl (by decide +kernel) ⟨Nat.le_of_ble_eq_true rfl, Nat.le_of_ble_eq_true rfl⟩) (m_preV (ci := 6) hC hH F_5 rfl) rfl rfl hl.1 rfl (lv_room (Nat.le_of_ble_eq_true rfl)) dX6_like_34 ⟨Nat.le_of_ble_eq_true rfl, Nat.le_of_ble_eq_true rfl⟩) (fun rho_12 f_11 H locs hw hH => ?_)
          obtain ⟨hfr1, hI⟩ := hw
          have hfr1 : frM h f f_11 := hfr1
          have hfr := hfr.trans hfr1
          have hI : FM G h n T z A hg ver (cqL c0q (sLd σ p_.toNatClampNeg)) (feL fe0 c0q (sLd σ p_.toNatClampNeg)) tms ca wl wh ac th sx (sLd σ p_.toNatClampNeg) f_11 := hI
          obtain ⟨I_13, J_13, hM, hR, hac_13, hth_13⟩ := hI
          have hg_13 := hR.hg40
          have n24_13 := hR.n24
          have tl_13 := len_b hR.ok.2.2.1
          have wl_13 := hR.wl192
          have hgI_13 : (nI hg).toInt = ((hg : Nat) : Int) := nI_toInt (by omega)
          have tmI_13 : (nI ((trS (sLd σ p_.toNatClampNeg)).length)).toInt = (((trS (sLd σ p_.toNatClampNeg)).length : Nat) : Int) := nI_toInt (by omega)
          have wmI_13 : (nI wl.length).toInt = ((wl.length : Nat) : Int) := nI_toInt (by omega)
          have acI_13 : (nI ac).toInt = ((ac : Nat) : Int) := nI_toInt (by omega)
          have thI_13 : (nI th).toInt = ((th : Nat) : Int) := nI_toInt (by omega)
          have nIn_13 : (nI n).toInt = ((n : Nat) : Int) := nI_toInt (by omega)
          refine lv_aload_n hx hb dX6_like_37 rfl (lv_at hl 0 rfl) ?_
          refine lv_iload_n hx hb dX6_like_38 rfl (lv_at hl 2 rfl) ?_
          have F_14 : f_11 (h 0) = some (.inr (6, [.int (nI n), .ref (h 1), .int (nI hg), .ref (h 3), .ref (h 4), .ref (h 5), .ref (h 6), .int (feL fe0 c0q (sLd σ p_.toNatClampNeg)), .ref (h 8), .ref (h 9), .ref (h 10), .ref (h 11), .ref (h 12), .ref (h 13), .ref (h 14), .ref (h 15), .int ca, .long (gfS (sLd σ p_.toNatClampNeg)), .int wh, .int (nI ((trS (sLd σ p_.toNatClampNeg)).length)), .ref (h 20), .ref (h 21), .int (nI wl.length), .ref (h 23), .ref (h 24), .int (nI ac), .ref (h 26), .ref (h 27), .int (nI th), .int sx])) := hM.1
          have hI : FM G h n T z A hg ver (cqL c0q (sLd σ p_.toNatClampNeg)) (feL fe0 c0q (sLd σ p_.toNatClampNeg)) tms ca wl wh ac th sx (sLd σ p_.toNatClampNeg) f_11 := ⟨_, _, hM, hR, hac_13, hth_13⟩
          refine m_gov hH (va_runV (As := [.int q_]) (rest := []) ⟨hx, hb, hml, hown, hts⟩ (c_X6_load l G h n T z A hg ver c0q fe0 tms ca wl wh ac th sx (sLd σ p_.toNatClampNeg) f_11 hI hn0 q_ (by omega)) (cwV 1 hts gX6_like_X6_load rfl rfl rfl (by decide +kernel) ⟨Nat.le_of_ble_eq_true rfl, Nat.le_of_ble_eq_true rfl⟩) (m_preV (ci := 6) hC hH F_14 rfl) rfl rfl hl.1 rfl (lv_room (Nat.le_of_ble_eq_true rfl)) dX6_like_39 ⟨Nat.le_of_ble_eq_true rfl, Nat.le_of_ble_eq_true rfl⟩) (fun rho_17 f_16 H locs hw hH => ?_)
          obtain ⟨hfr1, hI⟩ := hw
          have hfr1 : frM h f_11 f_16 := hfr1
          have hfr := hfr.trans hfr1
          have hI : FM G h n T z A hg ver (cqL c0q (sLd (sLd σ p_.toNatClampNeg) q_.toNatClampNeg)) (feL fe0 c0q (sLd (sLd σ p_.toNatClampNeg) q_.toNatClampNeg)) tms ca wl wh ac th sx (sLd (sLd σ p_.toNatClampNeg) q_.toNatClampNeg) f_16 := hI
          obtain ⟨I_18, J_18, hM, hR, hac_18, hth_18⟩ := hI
          have hg_18 := hR.hg40
          have n24_18 := hR.n24
          have tl_18 := len_b hR.ok.2.2.1
          have wl_18 := hR.wl192
          have hgI_18 : (nI hg).toInt = ((hg : Nat) : Int) := nI_toInt (by omega)
          have tmI_18 : (nI ((trS (sLd (sLd σ p_.toNatClampNeg) q_.toNatClampNeg)).length)).toInt = (((trS (sLd (sLd σ p_.toNatClampNeg) q_.toNatClampNeg)).length : Nat) : Int) := nI_toInt (by omega)
          have wmI_18 : (nI wl.length).toInt = ((wl.length : Nat) : Int) := nI_toInt (by omega)
          have acI_18 : (nI ac).toInt = ((ac : Nat) : Int) := nI_toInt (by omega)
          have thI_18 : (nI th).toInt = ((th : Nat) : Int) := nI_toInt (by omega)
          have nIn_18 : (nI n).toInt = ((n : Nat) : Int) := nI_toInt (by omega)
          refine lv_iconst (v := 1) hx hb dX6_like_42 (by decide) ?_
          refine lv_istore_n (lv' := [(3, .int 1), (0, .ref (h 0)), (1, .int p_), (2, .int q_)]) hx hb dX6_like_43 rfl hl (by decide) rfl (fun ls hl => ?_)
          refine lv_iconst (v := 0) hx hb dX6_like_44 (by decide) ?_
          refine lv_istore (lv' := [(4, .int 0), (3, .int 1), (0, .ref (h 0)), (1, .int p_), (2, .int q_)]) hx hb dX6_like_45 hl (by decide) rfl (fun ls hl => ?_)
          have loop_47 : ∀ (fuel_ : Nat) (b3 : Int32) (k4 : Int32) (fL : mF) (sL : tS) (h0_ : 0 ≤ k4.toInt) (h1_ : k4.toInt ≤ 6) (hfr : frM h f fL) (hI : FM G h n T z A hg ver (cqL c0q sL) (feL fe0 c0q sL) tms ca wl wh ac th sx sL fL) (hlk_ : ((b3.toInt : Int) = 1 ∧ lkF (T p_.toNatClampNeg) p_.toNatClampNeg q_.toNatClampNeg (8 - k4.toNatClampNeg) k4.toNatClampNeg sL = (lkF (T p_.toNatClampNeg) p_.toNatClampNeg q_.toNatClampNeg 8 0 (sLd (sLd σ p_.toNatClampNeg) q_.toNatClampNeg))) ∨ ((b3.toInt : Int) = 0 ∧ (false, sL) = (lkF (T p_.toNatClampNeg) p_.toNatClampNeg q_.toNatClampNeg 8 0 (sLd (sLd σ p_.toNatClampNeg) q_.toNatClampNeg)))) (_ : ((8 : Int) - k4.toInt).toNat < fuel_) (H : Heap) (locs : List Loc) (ls : Array Slot) (_ : mH G s fL H locs) (_ : lv_has ls 5 [(0, .ref (h 0)), (1, .int p_), (2, .int q_), (3, .int b3), (4, .int k4)]), W p l e ({ frames := 1, cells := 0, slots := 0, locals := 24 } : Room) s m ([.ref (h 0), .int p_, .int q_] : List Value).toArray below meth c H locs (0 + 0 + 0) (0 + 0 + 0) (MQ below (va_Qi (fun (r : Int32) (u : mS) => frM h f u.2 ∧ FM G h n T z A hg ver (cqL c0q ((lik T σ p_ q_).2)) (feL fe0 c0q ((lik T σ p_ q_).2)) tms ca wl wh ac th sx ((lik T σ p_ q_).2) u.2 ∧ ((r.toInt = 1 ∧ (lik T σ p_ q_).1 = true) ∨ (r.toInt = 0 ∧ (lik T σ p_ q_).1 = false))) (fun (u : mS) t => mW G u.2 t) (mA G)) ([.ref (h 0), .int p_, .int q_] : List Value).toArray s 0 0 (mA G)) (F0 m 47 ls []) := by
            intro N_47
            induction N_47 with
            | zero => intro b3 k4 fL sL h0_ h1_ hfr hI hlk_ hN; omega
            | succ N_47 ih_47 =>
              intro b3 k4 fL sL h0_ h1_ hfr hI hlk_ hN_47 H locs ls hH hl
              obtain ⟨I_19, J_19, hM, hR, hac_19, hth_19⟩ := hI
              have hg_19 := hR.hg40
              have n24_19 := hR.n24
              have tl_19 := len_b hR.ok.2.2.1
              have wl_19 := hR.wl192
              have hgI_19 : (nI hg).toInt = ((hg : Nat) : Int) := nI_toInt (by omega)
              have tmI_19 : (nI ((trS sL).length)).toInt = (((trS sL).length : Nat) : Int) := nI_toInt (by omega)
              have wmI_19 : (nI wl.length).toInt = ((wl.length : Nat) : Int) := nI_toInt (by omega)
              have acI_19 : (nI ac).toInt = ((ac : Nat) : Int) := nI_toInt (by omega)
              have thI_19 : (nI th).toInt = ((th : Nat) : Int) := nI_toInt (by omega)
              have nIn_19 : (nI n).toInt = ((n : Nat) : Int) := nI_toInt (by omega)
              refine lv_iload hx hb dX6_like_47 (lv_at hl 4 rfl) ?_
              refine lv_aload_n hx hb dX6_like_49 rfl (lv_at hl 0 rfl) ?_
              have F_20 : fL (h 0) = some (.inr (6, [.int (nI n), .ref (h 1), .int (nI hg), .ref (h 3), .ref (h 4), .ref (h 5), .ref (h 6), .int (feL fe0 c0q sL), .ref (h 8), .ref (h 9), .ref (h 10), .ref (h 11), .ref (h 12), .ref (h 13), .ref (h 14), .ref (h 15), .int ca, .long (gfS sL), .int wh, .int (nI ((trS sL).length)), .ref (h 20), .ref (h 21), .int (nI wl.length), .ref (h 23), .ref (h 24), .int (nI ac), .ref (h 26), .ref (h 27), .int (nI th), .int sx])) := hM.1
              refine m_get (ci := 6) (v := .ref (h 1)) (C := RX6) (T := TX6) (N := 30) hx hb hC hH hts in_X6_like_X6 hown F_20 rfl 1 (by decide) (hts (.fieldLink RX6 7 "LazyStateModel" "types" "[I") (by decide +kernel)) rfl dX6_like_50 ?_
              refine lv_iload_n hx hb dX6_like_53 rfl (lv_at hl 1 rfl) ?_
              have hg_21 : fL (h 1) = some (.inl (gk G 0, 24, .inl (I_19 1))) := hM.2.1 1 (by decide) rfl
              refine m_iald hx hb hC hH hg_21 (vp_in_iff.mpr ⟨by omega, by omega⟩) dX6_like_54 ?_
              refine lv_topi (fun x_22 ex_22 => ?_)
              have ty_x_22 : x_22.toInt = ((T p_.toNatClampNeg : Nat) : Int) := by rw [ex_22, hR.ty (by omega)]; exact nI_toInt (by have := hR.T3 p_.toNatClampNeg; omega)
              refine m_goi hH (va_runS (As := [.int x_22]) (rest := [.int k4]) ⟨hx, hb, hml, hown, hts⟩ (c_X6_fieldsOf l G fL x_22) (va_cwS 1 hts gX6_like_X6_fieldsOf rfl rfl rfl (by decide +kernel) ⟨Nat.le_of_ble_eq_true rfl, Nat.le_of_ble_eq_true rfl⟩) (m_preS hC hH) rfl rfl hl.1 rfl (lv_room (Nat.le_of_ble_eq_true rfl)) dX6_like_55 ⟨Nat.le_of_ble_eq_true rfl, Nat.le_of_ble_eq_true rfl⟩) (fun r_23 rho_25 f_24 H locs hw hH => ?_)
              obtain ⟨hu, hr_23⟩ := hw
              have hu : f_24 = fL := hu
              rw [hu] at hH
              have br_23 : 3 ≤ r_23.toInt ∧ r_23.toInt ≤ 6 := by rw [hr_23]; unfold fldM; (repeat' split) <;> omega
              refine lv_icmp_ge (tgt := 120) hx hb dX6_like_58 (by decide) (fun c_26 => ?_) (fun c_26 => ?_)
              · skip
                have ic_26 : (r_23.toInt : Int) ≤ k4.toInt := ic_le rfl rfl c_26
                have ck_ := ic_clN (rfl : k4.toInt = _) (by omega)
                rw [ty_x_22] at hr_23
                have sz_ : srt (T p_.toNatClampNeg) k4.toNatClampNeg = 0 := by have sm_ := srt_M (T p_.toNatClampNeg) (hR.T3 _) k4.toNatClampNeg (by omega); rw [ck_] at sm_; exact Decidable.byContradiction (fun z_ => by have := sm_.1.mpr z_; omega)
                refine lv_iload_n hx hb dX6_like_120 rfl (lv_at hl 3 rfl) ?_
                exact m_zret (v := b3) hx hb hr (ic_nar _ (by omega)) hlk hC hH (fun _ => (0, 0)) ⟨hfr, by rcases hlk_ with y_ | y_; have q0_ := y_.2; rw [lkF_0 sz_] at q0_; rw [lk_, ← q0_]; exact ⟨⟨_, _, hM, hR, hac_19, hth_19⟩, Or.inl ⟨y_.1, rfl⟩⟩; rw [lk_, ← y_.2]; exact ⟨⟨_, _, hM, hR, hac_19, hth_19⟩, Or.inr ⟨y_.1, rfl⟩⟩⟩ (Nat.le_of_ble_eq_true rfl) (Nat.le_of_ble_eq_true rfl) dX6_like_121
              · skip
                have ic_26 : (r_23.toInt : Int) > k4.toInt := ic_nle rfl rfl c_26
                have ck_ := ic_clN (rfl : k4.toInt = _) (by omega)
                have sm_ := srt_M (T p_.toNatClampNeg) (hR.T3 _) k4.toNatClampNeg (by omega)
                rw [ck_] at sm_
                rw [ty_x_22] at hr_23
                have sn_ := sm_.1.mp (by omega)
                have k7_ : k4.toNatClampNeg ≤ 5 := Decidable.byContradiction (fun z_ => sn_ (by rw [show k4.toNatClampNeg = 6 from by omega]; exact (srt_8 _ (hR.T3 _)).2))
                refine lv_iload_n hx hb dX6_like_61 rfl (lv_at hl 3 rfl) ?_
                refine lv_if_eq (tgt := 120) hx hb dX6_like_62 (by decide) (fun c_27 => ?_) (fun c_27 => ?_)
                · skip
                  have ic_27 : (b3.toInt : Int) = 0 := ic_eq rfl kI_0 c_27
                  refine lv_iload_n hx hb dX6_like_120 rfl (lv_at hl 3 rfl) ?_
                  exact m_zret (v := b3) hx hb hr (ic_nar _ (by omega)) hlk hC hH (fun _ => (0, 0)) ⟨hfr, by have q0_ := (hlk_.resolve_left (fun z_ => by omega)).2; rw [lk_, ← q0_]; exact ⟨⟨_, _, hM, hR, hac_19, hth_19⟩, Or.inr ⟨by omega, rfl⟩⟩⟩ (Nat.le_of_ble_eq_true rfl) (Nat.le_of_ble_eq_true rfl) dX6_like_121
                · skip
                  have ic_27 : (b3.toInt : Int) ≠ 0 := ic_ne rfl kI_0 c_27
                  refine lv_aload_n hx hb dX6_like_65 rfl (lv_at hl 0 rfl) ?_
                  refine lv_bipush (v := 8) hx hb dX6_like_66 (by decide) ?_
                  refine lv_iload_n hx hb dX6_like_68 rfl (lv_at hl 1 rfl) ?_
                  refine lv_imul hx hb dX6_like_69 ?_
                  refine lv_topi (fun x_28 ex_28 => ?_)
                  have ix_28 : x_28.toInt = 8 * p_.toInt := ic_mul ex_28 kI_8 rfl (by omega) (by omega)
                  refine lv_iload hx hb dX6_like_70 (lv_at hl 4 rfl) ?_
                  refine lv_iadd hx hb dX6_like_72 ?_
                  refine lv_topi (fun x_29 ex_29 => ?_)
                  have ix_29 : x_29.toInt = x_28.toInt + k4.toInt := ic_add ex_29 rfl rfl (by omega) (by omega)
                  refine lv_iconst (v := 0) hx hb dX6_like_73 (by decide) ?_
                  have hI : FM G h n T z A hg ver (cqL c0q sL) (feL fe0 c0q sL) tms ca wl wh ac th sx sL fL := ⟨_, _, hM, hR, hac_19, hth_19⟩
                  refine m_gov hH (va_runV (As := [.int x_29, .int 0]) (rest := []) ⟨hx, hb, hml, hown, hts⟩ (c_X6_touch l G h n T z A hg ver c0q fe0 tms ca wl wh ac th sx sL fL hI hn0 x_29 0 (by have := kI_0; omega) (by have := kI_0; omega)) (cwV 2 hts gX6_like_X6_touch rfl rfl rfl (by decide +kernel) ⟨Nat.le_of_ble_eq_true rfl, Nat.le_of_ble_eq_true rfl⟩) (m_preV (ci := 6) hC hH F_20 rfl) rfl rfl hl.1 rfl (lv_room (Nat.le_of_ble_eq_true rfl)) dX6_like_74 ⟨Nat.le_of_ble_eq_true rfl, Nat.le_of_ble_eq_true rfl⟩) (fun rho_32 f_31 H locs hw hH => ?_)
                  obtain ⟨hfr1, hI⟩ := hw
                  have hfr1 : frM h fL f_31 := hfr1
                  have hfr := hfr.trans hfr1
                  have hI : FM G h n T z A hg ver (cqL c0q (sTc sL (2 * x_29.toNatClampNeg + (0 : Int32).toNatClampNeg))) (feL fe0 c0q (sTc sL (2 * x_29.toNatClampNeg + (0 : Int32).toNatClampNeg))) tms ca wl wh ac th sx (sTc sL (2 * x_29.toNatClampNeg + (0 : Int32).toNatClampNeg)) f_31 := hI
                  obtain ⟨I_33, J_33, hM, hR, hac_33, hth_33⟩ := hI
                  have hg_33 := hR.hg40
                  have n24_33 := hR.n24
                  have tl_33 := len_b hR.ok.2.2.1
                  have wl_33 := hR.wl192
                  have hgI_33 : (nI hg).toInt = ((hg : Nat) : Int) := nI_toInt (by omega)
                  have tmI_33 : (nI ((trS (sTc sL (2 * x_29.toNatClampNeg + (0 : Int32).toNatClampNeg))).length)).toInt = (((trS (sTc sL (2 * x_29.toNatClampNeg + (0 : Int32).toNatClampNeg))).length : Nat) : Int) := nI_toInt (by omega)
                  have wmI_33 : (nI wl.length).toInt = ((wl.length : Nat) : Int) := nI_toInt (by omega)
                  have acI_33 : (nI ac).toInt = ((ac : Nat) : Int) := nI_toInt (by omega)
                  have thI_33 : (nI th).toInt = ((th : Nat) : Int) := nI_toInt (by omega)
                  have nIn_33 : (nI n).toInt = ((n : Nat) : Int) := nI_toInt (by omega)
                  refine lv_aload_n hx hb dX6_like_77 rfl (lv_at hl 0 rfl) ?_
                  refine lv_bipush (v := 8) hx hb dX6_like_78 (by decide) ?_
                  refine lv_iload_n hx hb dX6_like_80 rfl (lv_at hl 2 rfl) ?_
                  refine lv_imul hx hb dX6_like_81 ?_
                  refine lv_topi (fun x_34 ex_34 => ?_)
                  have ix_34 : x_34.toInt = 8 * q_.toInt := ic_mul ex_34 kI_8 rfl (by omega) (by omega)
                  refine lv_iload hx hb dX6_like_82 (lv_at hl 4 rfl) ?_
                  refine lv_iadd hx hb dX6_like_84 ?_
                  refine lv_topi (fun x_35 ex_35 => ?_)
                  have ix_35 : x_35.toInt = x_34.toInt + k4.toInt := ic_add ex_35 rfl rfl (by omega) (by omega)
                  refine lv_iconst (v := 0) hx hb dX6_like_85 (by decide) ?_
                  have F_36 : f_31 (h 0) = some (.inr (6, [.int (nI n), .ref (h 1), .int (nI hg), .ref (h 3), .ref (h 4), .ref (h 5), .ref (h 6), .int (feL fe0 c0q (sTc sL (2 * x_29.toNatClampNeg + (0 : Int32).toNatClampNeg))), .ref (h 8), .ref (h 9), .ref (h 10), .ref (h 11), .ref (h 12), .ref (h 13), .ref (h 14), .ref (h 15), .int ca, .long (gfS (sTc sL (2 * x_29.toNatClampNeg + (0 : Int32).toNatClampNeg))), .int wh, .int (nI ((trS (sTc sL (2 * x_29.toNatClampNeg + (0 : Int32).toNatClampNeg))).length)), .ref (h 20), .ref (h 21), .int (nI wl.length), .ref (h 23), .ref (h 24), .int (nI ac), .ref (h 26), .ref (h 27), .int (nI th), .int sx])) := hM.1
                  have hI : FM G h n T z A hg ver (cqL c0q (sTc sL (2 * x_29.toNatClampNeg + (0 : Int32).toNatClampNeg))) (feL fe0 c0q (sTc sL (2 * x_29.toNatClampNeg + (0 : Int32).toNatClampNeg))) tms ca wl wh ac th sx (sTc sL (2 * x_29.toNatClampNeg + (0 : Int32).toNatClampNeg)) f_31 := ⟨_, _, hM, hR, hac_33, hth_33⟩
                  refine m_gov hH (va_runV (As := [.int x_35, .int 0]) (rest := []) ⟨hx, hb, hml, hown, hts⟩ (c_X6_touch l G h n T z A hg ver c0q fe0 tms ca wl wh ac th sx (sTc sL (2 * x_29.toNatClampNeg + (0 : Int32).toNatClampNeg)) f_31 hI hn0 x_35 0 (by have := kI_0; omega) (by have := kI_0; omega)) (cwV 2 hts gX6_like_X6_touch rfl rfl rfl (by decide +kernel) ⟨Nat.le_of_ble_eq_true rfl, Nat.le_of_ble_eq_true rfl⟩) (m_preV (ci := 6) hC hH F_36 rfl) rfl rfl hl.1 rfl (lv_room (Nat.le_of_ble_eq_true rfl)) dX6_like_86 ⟨Nat.le_of_ble_eq_true rfl, Nat.le_of_ble_eq_true rfl⟩) (fun rho_39 f_38 H locs hw hH => ?_)
                  obtain ⟨hfr1, hI⟩ := hw
                  have hfr1 : frM h f_31 f_38 := hfr1
                  have hfr := hfr.trans hfr1
                  have hI : FM G h n T z A hg ver (cqL c0q (sTc (sTc sL (2 * x_29.toNatClampNeg + (0 : Int32).toNatClampNeg)) (2 * x_35.toNatClampNeg + (0 : Int32).toNatClampNeg))) (feL fe0 c0q (sTc (sTc sL (2 * x_29.toNatClampNeg + (0 : Int32).toNatClampNeg)) (2 * x_35.toNatClampNeg + (0 : Int32).toNatClampNeg))) tms ca wl wh ac th sx (sTc (sTc sL (2 * x_29.toNatClampNeg + (0 : Int32).toNatClampNeg)) (2 * x_35.toNatClampNeg + (0 : Int32).toNatClampNeg)) f_38 := hI
                  obtain ⟨I_40, J_40, hM, hR, hac_40, hth_40⟩ := hI
                  have hg_40 := hR.hg40
                  have n24_40 := hR.n24
                  have tl_40 := len_b hR.ok.2.2.1
                  have wl_40 := hR.wl192
                  have hgI_40 : (nI hg).toInt = ((hg : Nat) : Int) := nI_toInt (by omega)
                  have tmI_40 : (nI ((trS (sTc (sTc sL (2 * x_29.toNatClampNeg + (0 : Int32).toNatClampNeg)) (2 * x_35.toNatClampNeg + (0 : Int32).toNatClampNeg))).length)).toInt = (((trS (sTc (sTc sL (2 * x_29.toNatClampNeg + (0 : Int32).toNatClampNeg)) (2 * x_35.toNatClampNeg + (0 : Int32).toNatClampNeg))).length : Nat) : Int) := nI_toInt (by omega)
                  have wmI_40 : (nI wl.length).toInt = ((wl.length : Nat) : Int) := nI_toInt (by omega)
                  have acI_40 : (nI ac).toInt = ((ac : Nat) : Int) := nI_toInt (by omega)
                  have thI_40 : (nI th).toInt = ((th : Nat) : Int) := nI_toInt (by omega)
                  have nIn_40 : (nI n).toInt = ((n : Nat) : Int) := nI_toInt (by omega)
                  refine lv_aload_n hx hb dX6_like_89 rfl (lv_at hl 0 rfl) ?_
                  refine lv_bipush (v := 8) hx hb dX6_like_90 (by decide) ?_
                  refine lv_iload_n hx hb dX6_like_92 rfl (lv_at hl 1 rfl) ?_
                  refine lv_imul hx hb dX6_like_93 ?_
                  refine lv_topi (fun x_41 ex_41 => ?_)
                  have ix_41 : x_41.toInt = 8 * p_.toInt := ic_mul ex_41 kI_8 rfl (by omega) (by omega)
                  refine lv_iload hx hb dX6_like_94 (lv_at hl 4 rfl) ?_
                  refine lv_iadd hx hb dX6_like_96 ?_
                  refine lv_topi (fun x_42 ex_42 => ?_)
                  have ix_42 : x_42.toInt = x_41.toInt + k4.toInt := ic_add ex_42 rfl rfl (by omega) (by omega)
                  refine m_goi hH (va_runS (As := [.int x_42]) (rest := [.ref (h 0)]) ⟨hx, hb, hml, hown, hts⟩ (c_X6_at l G f_38 x_42 (by exact ⟨by omega, by omega⟩)) (va_cwS 1 hts gX6_like_X6_at rfl rfl rfl (by decide +kernel) ⟨Nat.le_of_ble_eq_true rfl, Nat.le_of_ble_eq_true rfl⟩) (m_preS hC hH) rfl rfl hl.1 rfl (lv_room (Nat.le_of_ble_eq_true rfl)) dX6_like_97 ⟨Nat.le_of_ble_eq_true rfl, Nat.le_of_ble_eq_true rfl⟩) (fun r_43 rho_45 f_44 H locs hw hH => ?_)
                  obtain ⟨hu, hr_43⟩ := hw
                  have hu : f_44 = f_38 := hu
                  rw [hu] at hH
                  refine lv_bipush (v := 8) hx hb dX6_like_100 (by decide) ?_
                  refine lv_iload_n hx hb dX6_like_102 rfl (lv_at hl 2 rfl) ?_
                  refine lv_imul hx hb dX6_like_103 ?_
                  refine lv_topi (fun x_46 ex_46 => ?_)
                  have ix_46 : x_46.toInt = 8 * q_.toInt := ic_mul ex_46 kI_8 rfl (by omega) (by omega)
                  refine lv_iload hx hb dX6_like_104 (lv_at hl 4 rfl) ?_
                  refine lv_iadd hx hb dX6_like_106 ?_
                  refine lv_topi (fun x_47 ex_47 => ?_)
                  have ix_47 : x_47.toInt = x_46.toInt + k4.toInt := ic_add ex_47 rfl rfl (by omega) (by omega)
                  refine m_goi hH (va_runS (As := [.int x_47]) (rest := [.int r_43, .ref (h 0)]) ⟨hx, hb, hml, hown, hts⟩ (c_X6_at l G f_38 x_47 (by exact ⟨by omega, by omega⟩)) (va_cwS 1 hts gX6_like_X6_at rfl rfl rfl (by decide +kernel) ⟨Nat.le_of_ble_eq_true rfl, Nat.le_of_ble_eq_true rfl⟩) (m_preS hC hH) rfl rfl hl.1 rfl (lv_room (Nat.le_of_ble_eq_true rfl)) dX6_like_107 ⟨Nat.le_of_ble_eq_true rfl, Nat.le_of_ble_eq_true rfl⟩) (fun r_48 rho_50 f_49 H locs hw hH => ?_)
                  obtain ⟨hu, hr_48⟩ := hw
                  have hu : f_49 = f_38 := hu
                  rw [hu] at hH
                  have F_51 : f_38 (h 0) = some (.inr (6, [.int (nI n), .ref (h 1), .int (nI hg), .ref (h 3), .ref (h 4), .ref (h 5), .ref (h 6), .int (feL fe0 c0q (sTc (sTc sL (2 * x_29.toNatClampNeg + (0 : Int32).toNatClampNeg)) (2 * x_35.toNatClampNeg + (0 : Int32).toNatClampNeg))), .ref (h 8), .ref (h 9), .ref (h 10), .ref (h 11), .ref (h 12), .ref (h 13), .ref (h 14), .ref (h 15), .int ca, .long (gfS (sTc (sTc sL (2 * x_29.toNatClampNeg + (0 : Int32).toNatClampNeg)) (2 * x_35.toNatClampNeg + (0 : Int32).toNatClampNeg))), .int wh, .int (nI ((trS (sTc (sTc sL (2 * x_29.toNatClampNeg + (0 : Int32).toNatClampNeg)) (2 * x_35.toNatClampNeg + (0 : Int32).toNatClampNeg))).length)), .ref (h 20), .ref (h 21), .int (nI wl.length), .ref (h 23), .ref (h 24), .int (nI ac), .ref (h 26), .ref (h 27), .int (nI th), .int sx])) := hM.1
                  refine m_goi hH (va_runV (As := [.int r_43, .int r_48]) (rest := []) ⟨hx, hb, hml, hown, hts⟩ (c_X6_areAlike l G h n (nI hg, (feL fe0 c0q (sTc (sTc sL (2 * x_29.toNatClampNeg + (0 : Int32).toNatClampNeg)) (2 * x_35.toNatClampNeg + (0 : Int32).toNatClampNeg))), ca, (gfS (sTc (sTc sL (2 * x_29.toNatClampNeg + (0 : Int32).toNatClampNeg)) (2 * x_35.toNatClampNeg + (0 : Int32).toNatClampNeg))), wh, nI ((trS (sTc (sTc sL (2 * x_29.toNatClampNeg + (0 : Int32).toNatClampNeg)) (2 * x_35.toNatClampNeg + (0 : Int32).toNatClampNeg))).length), nI wl.length, nI ac, nI th, sx) I_40 J_40 f_38 hM r_43 r_48 (by omega) (by omega) (by rw [show r_43.toNatClampNeg = 192 * 41 + 8 * p_.toNatClampNeg + k4.toNatClampNeg from by have := ic_clN (rfl : r_43.toInt = _) (by omega); omega]; exact arO_sz (n := n) (by omega) (hR.arS.1 p_.toNatClampNeg (by omega)) (hR.ok.1 p_.toNatClampNeg (by omega)))) (cwV 2 hts gX6_like_X6_areAlike rfl rfl rfl (by decide +kernel) ⟨Nat.le_of_ble_eq_true rfl, Nat.le_of_ble_eq_true rfl⟩) (m_preV (ci := 6) hC hH F_51 rfl) rfl rfl hl.1 rfl (lv_room (Nat.le_of_ble_eq_true rfl)) dX6_like_110 ⟨Nat.le_of_ble_eq_true rfl, Nat.le_of_ble_eq_true rfl⟩) (fun r_52 rho_54 f_53 H locs hw hH => ?_)
                  obtain ⟨hu, hr_52⟩ := hw
                  have hu : f_53 = f_38 := hu
                  rw [hu] at hH
                  try dsimp only at hr_52
                  have al_ := alk_iff (n := n) (j := k4.toNatClampNeg) (by omega) (hR.arS.1 p_.toNatClampNeg (by omega)) (by have := hR.arS.1 q_.toNatClampNeg (by omega); rw [← teq_] at this; exact this) (hR.ok.1 p_.toNatClampNeg (by omega)) (by have := hR.ok.1 q_.toNatClampNeg (by omega); rw [← teq_] at this; exact this)
                  have nn_55 : r_43.toNatClampNeg = 192 * 41 + 8 * p_.toNatClampNeg + k4.toNatClampNeg := by have := ic_clN (rfl : r_43.toInt = _) (by omega); omega
                  have nn_56 : r_48.toNatClampNeg = 192 * 41 + 8 * q_.toNatClampNeg + k4.toNatClampNeg := by have := ic_clN (rfl : r_48.toInt = _) (by omega); omega
                  rw [nn_55, nn_56] at hr_52
                  rw [al_] at hr_52
                  refine lv_istore_n (lv' := [(3, .int r_52), (0, .ref (h 0)), (1, .int p_), (2, .int q_), (4, .int k4)]) hx hb dX6_like_113 rfl hl (by decide) rfl (fun ls hl => ?_)
                  obtain ⟨x_57, ex_57⟩ : ∃ y : Int32, y = k4 + 1 := ⟨_, rfl⟩
                  have ix_57 : x_57.toInt = k4.toInt + 1 := ic_add ex_57 rfl kI_1 (by omega) (by omega)
                  refine lv_iinc (v := x_57) (lv' := [(4, .int x_57), (3, .int r_52), (0, .ref (h 0)), (1, .int p_), (2, .int q_)]) hx hb dX6_like_114 hl (k := 4) rfl (by rw [ex_57]; rfl) (by decide) rfl (fun ls hl => ?_)
                  refine lv_goto (tgt := 47) hx hb dX6_like_117 (by decide) ?_
                  exact ih_47 r_52 x_57 f_38 (sTc (sTc sL (2 * x_29.toNatClampNeg + (0 : Int32).toNatClampNeg)) (2 * x_35.toNatClampNeg + (0 : Int32).toNatClampNeg)) (by omega) (by omega) hfr (⟨_, _, hM, hR, hac_40, hth_40⟩) (by have q0_ := (hlk_.resolve_right (fun z_ => by omega)).2; have hs_ : (sTc (sTc sL (2 * x_29.toNatClampNeg + (0 : Int32).toNatClampNeg)) (2 * x_35.toNatClampNeg + (0 : Int32).toNatClampNeg)) = sTc (sTc sL (2 * (8 * p_.toNatClampNeg + k4.toNatClampNeg))) (2 * (8 * q_.toNatClampNeg + k4.toNatClampNeg)) := (by rw [show x_29.toNatClampNeg = 8 * p_.toNatClampNeg + k4.toNatClampNeg from by have := ic_clN (rfl : x_29.toInt = _) (by omega); omega, show x_35.toNatClampNeg = 8 * q_.toNatClampNeg + k4.toNatClampNeg from by have := ic_clN (rfl : x_35.toInt = _) (by omega); omega, show (0 : Int32).toNatClampNeg = 0 from rfl]; rfl); rw [show x_57.toNatClampNeg = k4.toNatClampNeg + 1 from by have := ic_clN (rfl : x_57.toInt = _) (by omega); have := ic_clN (rfl : k4.toInt = _) (by omega); omega, hs_]; rw [show 8 - k4.toNatClampNeg = (8 - (k4.toNatClampNeg + 1)) + 1 from by omega] at q0_; rcases hr_52 with y_ | y_; exact Or.inl ⟨y_.1, by rw [lkF_y (s := sL) sn_ y_.2] at q0_; exact q0_⟩; exact Or.inr ⟨y_.1, by rw [lkF_n (s := sL) sn_ y_.2] at q0_; exact q0_⟩) (by omega) _ _ _ hH (lv_sub hl [2, 3, 4, 1, 0] rfl)
          exact loop_47 (((8 : Int) - 0).toNat + 1) 1 0 f_16 (sLd (sLd σ p_.toNatClampNeg) q_.toNatClampNeg) (by have := kI_1; have := kI_0; omega) (by have := kI_1; have := kI_0; omega) hfr (⟨_, _, hM, hR, hac_18, hth_18⟩) (Or.inl ⟨kI_1, rfl⟩) (by have := kI_1; have := kI_0; omega) _ _ _ hH (lv_sub hl [2, 3, 4, 1, 0] rfl)
        · skip
          have ic_9 : (x_7.toInt : Int) ≠ x_8.toInt := ic_ne rfl rfl c_9
          refine lv_iconst (v := 0) hx hb dX6_like_30 (by decide) ?_
          exact m_zret (v := 0) hx hb hr (by rfl) hlk hC hH (fun _ => (0, 0)) ⟨hfr, by rw [show (lik T σ p_ q_) = (false, σ) from (if_neg cne_).trans (if_pos (Or.inr (Or.inr (fun z_ => by have a_ := ty_x_7; have b_ := ty_x_8; rw [z_] at a_; omega))))]; exact ⟨⟨_, _, hM, hR, hac_1, hth_1⟩, Or.inr ⟨kI_0, rfl⟩⟩⟩ (Nat.le_of_ble_eq_true rfl) (Nat.le_of_ble_eq_true rfl) dX6_like_31
  · skip
    have ic_2 : (p_.toInt : Int) = q_.toInt := ic_eq rfl rfl c_2
    refine lv_iconst (v := 1) hx hb dX6_like_5 (by decide) ?_
    exact m_zret (v := 1) hx hb hr (by rfl) hlk hC hH (fun _ => (0, 0)) ⟨hfr, by rw [show (lik T σ p_ q_) = (true, σ) from if_pos c_2]; exact ⟨⟨_, _, hM, hR, hac_1, hth_1⟩, Or.inl ⟨kI_1, rfl⟩⟩⟩ (Nat.le_of_ble_eq_true rfl) (Nat.le_of_ble_eq_true rfl) dX6_like_6
