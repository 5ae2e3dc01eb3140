set_option maxHeartbeats 4000000 in
set_option maxRecDepth 100000 in
theorem c_X5_call (l : Launch) (G : mG) (k : Nat → Nat) (own : tR) (n : Nat) (T z : Nat → Nat) (A : Nat → tA) (hg : Nat) (ver : Nat → Nat → tB) (cq : Nat → Bool) (fe : Int32) (tms : Nat → Int32) (ca : Int32) (wl : List Nat) (wh : Int32) (ac th : Nat) (sx : Int32) (ld : Nat → Bool) (tr : List Nat) (gf : Int64) (D : tD) (f : mF) (hM : CM G k own n z D f) (hG : GC n T z A hg ver cq fe tms ca wl wh ac th sx ld tr gf D) (o b : Int32) (v : Int64) : Met l yX5_call wsX5_call ({ frames := 7, cells := 150, slots := 1450, locals := 204 }) (va_Pc [.ref (k 0), .int o, .int b, .long v] (mW G f)) (va_Qi (fun (r : Int32) (u : mS) => frD own f u.1 u.2 ∧ ((¬ (0 ≤ o.toInt ∧ o.toInt < n ∧ 0 ≤ b.toInt ∧ b.toInt < 6) ∧ r.toInt = -1 ∧ (∃ D2, CM G k u.1 n z D2 u.2 ∧ GC n T z A hg ver cq fe tms ca wl wh ac th sx ld tr gf D2)) ∨ ((0 ≤ o.toInt ∧ o.toInt < n ∧ 0 ≤ b.toInt ∧ b.toInt < 6) ∧ hg = 40 ∧ r.toInt = -2 ∧ (∃ D2, CM G k u.1 n z D2 u.2 ∧ GC n T z A hg ver cq fe tms ca wl wh ac th sx ld tr gf D2)) ∨ ((0 ≤ o.toInt ∧ o.toInt < n ∧ 0 ≤ b.toInt ∧ b.toInt < 6) ∧ hg ≤ 39 ∧ (rnC T z A (ver hg) b.toNatClampNeg o v).1 ≠ 0 ∧ r.toInt = (rnC T z A (ver hg) b.toNatClampNeg o v).1 ∧ (∃ D2, CM G k u.1 n z D2 u.2 ∧ GC n T z A hg ver (cqL cq (rnC T z A (ver hg) b.toNatClampNeg o v).2.2.2) (feL fe cq (rnC T z A (ver hg) b.toNatClampNeg o v).2.2.2) tms (ca + 1) ([]) (nI (rnC T z A (ver hg) b.toNatClampNeg o v).2.1) ((rnC T z A (ver hg) b.toNatClampNeg o v).2.2.1) ((rnC T z A (ver hg) b.toNatClampNeg o v).1) sx (ldS (rnC T z A (ver hg) b.toNatClampNeg o v).2.2.2) (trS (rnC T z A (ver hg) b.toNatClampNeg o v).2.2.2) (gfS (rnC T z A (ver hg) b.toNatClampNeg o v).2.2.2) D2)) ∨ ((0 ≤ o.toInt ∧ o.toInt < n ∧ 0 ≤ b.toInt ∧ b.toInt < 6) ∧ hg ≤ 39 ∧ (rnC T z A (ver hg) b.toNatClampNeg o v).1 = 0 ∧ r.toInt = 0 ∧ wls (dif n T (ver hg) (bdS (rnC T z A (ver hg) b.toNatClampNeg o v).2.2.2)) 192 = [] ∧ (∃ D2, CM G k u.1 n z D2 u.2 ∧ GC n T z A hg ver (cqL cq (rnC T z A (ver hg) b.toNatClampNeg o v).2.2.2) (feL fe cq (rnC T z A (ver hg) b.toNatClampNeg o v).2.2.2) tms (ca + 1) ([]) (-3) ((rnC T z A (ver hg) b.toNatClampNeg o v).2.2.1) 0 sx (ldS (rnC T z A (ver hg) b.toNatClampNeg o v).2.2.2) (trS (rnC T z A (ver hg) b.toNatClampNeg o v).2.2.2) (gfS (rnC T z A (ver hg) b.toNatClampNeg o v).2.2.2) D2)) ∨ ((0 ≤ o.toInt ∧ o.toInt < n ∧ 0 ≤ b.toInt ∧ b.toInt < 6) ∧ hg ≤ 39 ∧ (rnC T z A (ver hg) b.toNatClampNeg o v).1 = 0 ∧ r.toInt = 0 ∧ wls (dif n T (ver hg) (bdS (rnC T z A (ver hg) b.toNatClampNeg o v).2.2.2)) 192 ≠ [] ∧ (∃ D2, CM G k u.1 n z D2 u.2 ∧ GC n T z A (hg + 1) (va_up ver (hg + 1) (bdS (rnC T z A (ver hg) b.toNatClampNeg o v).2.2.2)) (fun _ => false) (feL fe cq (rnC T z A (ver hg) b.toNatClampNeg o v).2.2.2) (tmS tms (dif n T (ver hg) (bdS (rnC T z A (ver hg) b.toNatClampNeg o v).2.2.2)) 192) (ca + 1) (wls (dif n T (ver hg) (bdS (rnC T z A (ver hg) b.toNatClampNeg o v).2.2.2)) 192) (-3) ((rnC T z A (ver hg) b.toNatClampNeg o v).2.2.1) 0 sx (ldS (rnC T z A (ver hg) b.toNatClampNeg o v).2.2.2) (trS (rnC T z A (ver hg) b.toNatClampNeg o v).2.2.2) (gfS (rnC T z A (ver hg) b.toNatClampNeg o v).2.2.2) D2)))) (fun (u : mS) t => mW G u.2 t) (mA G)) 150 1450 (mA G) := by
  refine mMet [.ref (k 0), .int o, .int b, .long v] (cc := cX5_call) (maxL := 6) (ret := (some .int)) (by decide) rfl (Nat.le_of_ble_eq_true rfl) ?_
  intro p e s m below meth c ls hx hb hr hml hts hown hlk hnm hC hH hl
  have hl : lv_has ls 6 [(0, .ref (k 0)), (1, .int o), (2, .int b), (3, .long v)] := hl
  have hfr : frD own f own f := frD.rf
  have n24_ := hG.bs.1
  have hT3_ := hG.bs.2
  have h40_ := hG.h40
  have wl_ := hG.wr.1
  obtain ⟨cb_1, hl_1, hcb_1⟩ := hG.ln
  obtain ⟨⟨lb_1, st_1, nx_1, hq0_1, hlb_1⟩, htr_1, hld_⟩ := hG.lt
  have hlen_ := len_b htr_1.1
  have ol_ := ocn_le tr
  have tn_1 : (nI n).toInt = ((n : Nat) : Int) := nI_toInt (by omega)
  have th_1 : (nI hg).toInt = ((hg : Nat) : Int) := nI_toInt (by omega)
  have tw_1 : (nI wl.length).toInt = ((wl.length : Nat) : Int) := nI_toInt (by omega)
  have te_1 : (eD D 0).1.toInt = ((tr.length : Nat) : Int) := by rw [htr_1.2.1]; exact nI_toInt (by omega)
  refine lv_aload_n hx hb dX5_call_0 rfl (lv_at hl 0 rfl) ?_
  refine lv_iload_n hx hb dX5_call_1 rfl (lv_at hl 1 rfl) ?_
  refine lv_iload_n hx hb dX5_call_2 rfl (lv_at hl 2 rfl) ?_
  have F_5 : f (k 0) = some (.inr (5, [.ref (k 1), .int (nI n), .int (nI hg), .ref (k 2), .ref (k 5), .ref (k 13), .ref (k 21), .int ca, .int fe, .int cb_1, .ref (k 3), .int (nI wl.length), .ref (k 4), .int sx])) := by have w_ := hM.c0; rw [hl_1] at w_; exact w_
  refine m_goi hH (va_runV (As := [.int o, .int b]) (rest := []) ⟨hx, hb, hml, hown, hts⟩ (c_X5_callRefusal l G k own n T z A hg ver cq fe tms ca wl wh ac th sx ld tr gf D f hM hG o b) (cwV 2 hts gX5_call_X5_callRefusal rfl rfl rfl (by decide +kernel) ⟨Nat.le_of_ble_eq_true rfl, Nat.le_of_ble_eq_true rfl⟩) (m_preV (ci := 5) hC hH F_5 rfl) rfl rfl hl.1 rfl (lv_room (Nat.le_of_ble_eq_true rfl)) dX5_call_3 ⟨by show _ ≤ 150; omega, by show _ ≤ 1450; omega⟩) (fun r_2 rho_4 f_3 H locs hw hH => ?_)
  obtain ⟨hu, hr_2⟩ := hw
  have hu : f_3 = f := hu
  rw [hu] at hH
  try dsimp only at hr_2
  refine lv_istore (lv' := [(5, .int r_2), (0, .ref (k 0)), (1, .int o), (2, .int b), (3, .long v)]) hx hb dX5_call_6 hl (by decide) rfl (fun ls hl => ?_)
  refine lv_iload hx hb dX5_call_8 (lv_at hl 0 rfl) ?_
  refine lv_if_eq (tgt := 16) hx hb dX5_call_10 (by decide) (fun c_6 => ?_) (fun c_6 => ?_)
  · skip
    have ic_6 : (r_2.toInt : Int) = 0 := ic_eq rfl kI_0 c_6
    obtain ⟨cr_, cr39_, -⟩ := (hr_2.resolve_left (fun z_ => by omega)).resolve_left (fun z_ => by omega)
    have cb6_ := ic_clN (rfl : b.toInt = _) (by omega)
    have z32_ := hG.z32 b.toNatClampNeg
    refine lv_aload_n hx hb dX5_call_16 rfl (lv_at hl 1 rfl) ?_
    refine m_get (ci := 5) (v := .ref (k 5)) (C := RX5) (T := TX5) (N := 14) hx hb hC hH hts in_X5_call_X5 hown F_5 rfl 4 (by decide) (hts (.fieldLink RX5 24 "LazyState" "latest" "LLazyState$Run;") (by decide +kernel)) rfl dX5_call_17 ?_
    refine lv_aload_n hx hb dX5_call_20 rfl (lv_at hl 1 rfl) ?_
    refine m_get (ci := 5) (v := .ref (k 1)) (C := RX5) (T := TX5) (N := 14) hx hb hC hH hts in_X5_call_X5 hown F_5 rfl 0 (by decide) (hts (.fieldLink RX5 11 "LazyState" "objects" "[LLazyState$Body;") (by decide +kernel)) rfl dX5_call_21 ?_
    refine lv_iload_n hx hb dX5_call_24 rfl (lv_at hl 2 rfl) ?_
    refine lv_lload_n hx hb dX5_call_25 rfl (lv_at hl 4 rfl) ?_
    obtain ⟨l0_7, ht0_7⟩ := (hG.wf 0 (by decide)).2
    have F_11 : f (k 5) = some (.inr (3, [.ref (k 6), .int lb_1, .int (nI ac), .long gf, .int (nI th), .int wh, va_rf st_1, .ref (k 10), .ref (k 11), .ref (k 12), .int nx_1])) := by have w_ := hM.r0 0 (by decide); rw [hq0_1] at w_; exact w_
    refine m_gov hH (va_runV (As := [.ref (k 1), .int o, .long v]) (rest := []) ⟨hx, hb, hml, hown, hts⟩ (c_X3_start l G k own n T z 0 (by decide) D f hM hG.bs (hG.wf 0 (by decide)).1 (ver hg) (fun q_ h_ => hG.obs.ob h_) (fun q_ h_ => (hG.obs q_ h_).1 hg (Nat.le_refl _)) l0_7 ht0_7 o v (Or.inr (by omega))) (cwV 3 hts gX5_call_X3_start rfl rfl rfl (by decide +kernel) ⟨Nat.le_of_ble_eq_true rfl, Nat.le_of_ble_eq_true rfl⟩) (m_preV (ci := 3) hC hH F_11 rfl) rfl rfl hl.1 rfl (lv_room (Nat.le_of_ble_eq_true rfl)) dX5_call_26 ⟨by show _ ≤ 150; omega, by show _ ≤ 1450; omega⟩) (fun rho_10 f_9 H locs hw hH => ?_)
    obtain ⟨⟨nx_7, D_7, hM, hR0, hK0⟩, hfr1⟩ := hw
    have hM : CM G k rho_10 n z D_7 f_9 := hM
    have hfr1 : frD own f rho_10 f_9 := hfr1
    have hfr := hfr.trans hfr1
    have hl_7 : lD D_7 = (nI hg, ca, fe, cb_1, nI wl.length, sx) := hK0.2.2.1.trans hl_1
    refine lv_aload_n hx hb dX5_call_29 rfl (lv_at hl 1 rfl) ?_
    have F_12 : f_9 (k 0) = some (.inr (5, [.ref (k 1), .int (nI n), .int (nI hg), .ref (k 2), .ref (k 5), .ref (k 13), .ref (k 21), .int ca, .int fe, .int cb_1, .ref (k 3), .int (nI wl.length), .ref (k 4), .int sx])) := by have w_ := hM.c0; rw [hl_7] at w_; exact w_
    refine m_get (ci := 5) (v := .ref (k 5)) (C := RX5) (T := TX5) (N := 14) hx hb hC hH hts in_X5_call_X5 hown F_12 rfl 4 (by decide) (hts (.fieldLink RX5 24 "LazyState" "latest" "LLazyState$Run;") (by decide +kernel)) rfl dX5_call_30 ?_
    refine lv_aload_n hx hb dX5_call_33 rfl (lv_at hl 1 rfl) ?_
    refine m_get (ci := 5) (v := .ref (k 2)) (C := RX5) (T := TX5) (N := 14) hx hb hC hH hts in_X5_call_X5 hown F_12 rfl 3 (by decide) (hts (.fieldLink RX5 17 "LazyState" "behaviours" "[LLazyState$Behaviour;") (by decide +kernel)) rfl dX5_call_34 ?_
    refine lv_iload_n hx hb dX5_call_37 rfl (lv_at hl 3 rfl) ?_
    have hg_13 := hM.c2
    refine m_aald hx hb hC hH 4 rfl hg_13 (vp_in_iff.mpr ⟨by omega, by omega⟩) dX5_call_38 ?_
    rw [hM.bq b.toNatClampNeg (by have := ic_clN (rfl : b.toInt = _) (by omega); omega)]
    have ha_14 := (hG.run (by decide) hK0 hR0).1
    have nl_14 := nld_le (rnS T (fun q_ => A (32 * b.toNatClampNeg + q_)) (z b.toNatClampNeg) 200 0 0 (s0C (ver hg) o v)).2.2.2
    have F_18 : f_9 (k 5) = some (.inr (3, [.ref (k 6), .int ((rD D_7 0).1), .int ((rD D_7 0).2.1), .long ((rD D_7 0).2.2.1), .int ((rD D_7 0).2.2.2.1), .int ((rD D_7 0).2.2.2.2.1), va_rf ((rD D_7 0).2.2.2.2.2.1), .ref (k 10), .ref (k 11), .ref (k 12), .int ((rD D_7 0).2.2.2.2.2.2)])) := hM.r0 0 (by decide)
    refine m_gov hH (va_runV (As := [.ref (k (29 + 2 * b.toNatClampNeg))]) (rest := []) ⟨hx, hb, hml, hown, hts⟩ (c_X3_work l G k rho_10 n T z 0 (by decide) D_7 0 0 (-3) nx_7 (s0C (ver hg) o v) f_9 hM hR0 b.toNatClampNeg (by omega) z32_ (fun q_ => A (32 * b.toNatClampNeg + q_)) (fun p_ h_ => ha_14 b.toNatClampNeg (by omega) p_ h_) rfl rfl rfl) (cwV 1 hts gX5_call_X3_work rfl rfl rfl (by decide +kernel) ⟨Nat.le_of_ble_eq_true rfl, Nat.le_of_ble_eq_true rfl⟩) (m_preV (ci := 3) hC hH F_18 rfl) rfl rfl hl.1 rfl (lv_room (Nat.le_of_ble_eq_true rfl)) dX5_call_39 ⟨by show _ ≤ 150; omega, by show _ ≤ 1450; omega⟩) (fun rho_17 f_16 H locs hw hH => ?_)
    obtain ⟨⟨nx_14, D_14, hM, hR0, hKw_14⟩, hfr1⟩ := hw
    have hM : CM G k rho_17 n z D_14 f_16 := hM
    have hfr1 : frD rho_10 f_9 rho_17 f_16 := hfr1
    have hfr := hfr.trans hfr1
    have hK0 := hK0.trans hKw_14
    have hl_14 : lD D_14 = (nI hg, ca, fe, cb_1, nI wl.length, sx) := hKw_14.2.2.1.trans hl_7
    have hA_ : ∀ p_, p_ < z b.toNatClampNeg → okA (A (32 * b.toNatClampNeg + p_)) := fun p_ h_ => (hG.acs b.toNatClampNeg (by omega) p_ h_).1
    obtain ⟨R0_, eR0_⟩ : ∃ r_, r_ = (rnS T (fun q_ => A (32 * b.toNatClampNeg + q_)) (z b.toNatClampNeg) 200 0 0 (s0C (ver hg) o v)) := ⟨_, rfl⟩
    have hR0 : RP n T (k 1) 0 (nI R0_.2.2.1) (nI R0_.1) (if R0_.1 = 0 then -3 else nI R0_.2.1) nx_14 R0_.2.2.2 D_14 := by rw [eR0_]; exact hR0
    have r80_ : R0_.1 ≤ 8 := by rw [eR0_]; exact rnS_8 hA_ _ _ _ _
    have rI0_ : (nI R0_.1).toInt = ((R0_.1 : Nat) : Int) := nI_toInt (by omega)
    have hG := hG.run0 hK0 hR0 rfl rfl
    have n24_ := hG.bs.1
    have hT3_ := hG.bs.2
    have h40_ := hG.h40
    have wl_ := hG.wr.1
    obtain ⟨cb_19, hl_19, hcb_19⟩ := hG.ln
    obtain ⟨⟨lb_19, st_19, nx_19, hq0_19, hlb_19⟩, htr_19, hld_⟩ := hG.lt
    have hlen_ := len_b htr_19.1
    have ol_ := ocn_le (trS R0_.2.2.2)
    have tn_19 : (nI n).toInt = ((n : Nat) : Int) := nI_toInt (by omega)
    have th_19 : (nI hg).toInt = ((hg : Nat) : Int) := nI_toInt (by omega)
    have tw_19 : (nI wl.length).toInt = ((wl.length : Nat) : Int) := nI_toInt (by omega)
    have te_19 : (eD D_14 0).1.toInt = (((trS R0_.2.2.2).length : Nat) : Int) := by rw [htr_19.2.1]; exact nI_toInt (by omega)
    refine lv_aload_n hx hb dX5_call_42 rfl (lv_at hl 1 rfl) ?_
    refine lv_dup hx hb dX5_call_43 rfl ?_
    have F_20 : f_16 (k 0) = some (.inr (5, [.ref (k 1), .int (nI n), .int (nI hg), .ref (k 2), .ref (k 5), .ref (k 13), .ref (k 21), .int ca, .int fe, .int cb_19, .ref (k 3), .int (nI wl.length), .ref (k 4), .int sx])) := by have w_ := hM.c0; rw [hl_19] at w_; exact w_
    refine m_get (ci := 5) (v := .int ca) (C := RX5) (T := TX5) (N := 14) hx hb hC hH hts in_X5_call_X5 hown F_20 rfl 7 (by decide) (hts (.fieldLink RX5 113 "LazyState" "callCount" "I") (by decide +kernel)) rfl dX5_call_44 ?_
    refine lv_iconst (v := 1) hx hb dX5_call_47 (by decide) ?_
    refine lv_iadd hx hb dX5_call_48 ?_
    refine lv_topi (fun x_21 ex_21 => ?_)
    rw [ex_21]
    refine m_put (ci := 5) (v := .int (ca + 1)) (C := RX5) (T := TX5) (N := 14) hx hb hC hH hts in_X5_call_X5 tyX5 tyX5_ok nmX5 hown F_20 rfl 7 (by decide) (hts (.fieldLink RX5 113 "LazyState" "callCount" "I") (by decide +kernel)) rfl rfl rfl (Nat.le_of_ble_eq_true rfl) dX5_call_49 (fun H locs hH => ?_)
    have hH : mH G s (va_up f_16 (k 0) (some (.inr (5, [.ref (k 1), .int (nI n), .int (nI hg), .ref (k 2), .ref (k 5), .ref (k 13), .ref (k 21), .int (ca + 1), .int fe, .int cb_19, .ref (k 3), .int (nI wl.length), .ref (k 4), .int sx])))) H locs := hH
    obtain ⟨f_22, ef_22⟩ : ∃ zz_ : mF, zz_ = va_up f_16 (k 0) (some (.inr (5, [.ref (k 1), .int (nI n), .int (nI hg), .ref (k 2), .ref (k 5), .ref (k 13), .ref (k 21), .int (ca + 1), .int fe, .int cb_19, .ref (k 3), .int (nI wl.length), .ref (k 4), .int sx]))) := ⟨_, rfl⟩
    rw [← ef_22] at hH
    have hfr := hfr.up (by rw [hM.ok 0 (by omega)]; exact (by decide : (1 : Nat) ≠ 0)) ef_22
    have hM := hM.setL (n2 := n) (c := (nI hg, (ca + 1), fe, cb_19, nI wl.length, sx)) ef_22
    have hG := hG.L (cq2 := cq) (fe2 := fe) (ca2 := (ca + 1)) (cb2 := cb_19) (sx2 := sx) hcb_19
    obtain ⟨D_23, eD_23⟩ : ∃ d_ : tD, d_ = dL D_14 (nI hg, (ca + 1), fe, cb_19, nI wl.length, sx) := ⟨_, rfl⟩
    have hM : CM G k rho_17 n z D_23 f_22 := by rw [eD_23]; exact hM
    have hG : GC n T z A hg ver cq fe tms (ca + 1) wl (if R0_.1 = 0 then -3 else nI R0_.2.1) R0_.2.2.1 R0_.1 sx (ldS R0_.2.2.2) (trS R0_.2.2.2) (gfS R0_.2.2.2) D_23 := by rw [eD_23]; exact hG
    have hR0 : RP n T (k 1) 0 (nI R0_.2.2.1) (nI R0_.1) (if R0_.1 = 0 then -3 else nI R0_.2.1) nx_14 R0_.2.2.2 D_23 := by rw [eD_23]; exact hR0
    have n24_ := hG.bs.1
    have hT3_ := hG.bs.2
    have h40_ := hG.h40
    have wl_ := hG.wr.1
    obtain ⟨cb_24, hl_24, hcb_24⟩ := hG.ln
    obtain ⟨⟨lb_24, st_24, nx_24, hq0_24, hlb_24⟩, htr_24, hld_⟩ := hG.lt
    have hlen_ := len_b htr_24.1
    have ol_ := ocn_le (trS R0_.2.2.2)
    have tn_24 : (nI n).toInt = ((n : Nat) : Int) := nI_toInt (by omega)
    have th_24 : (nI hg).toInt = ((hg : Nat) : Int) := nI_toInt (by omega)
    have tw_24 : (nI wl.length).toInt = ((wl.length : Nat) : Int) := nI_toInt (by omega)
    have te_24 : (eD D_23 0).1.toInt = (((trS R0_.2.2.2).length : Nat) : Int) := by rw [htr_24.2.1]; exact nI_toInt (by omega)
    refine lv_aload_n hx hb dX5_call_52 rfl (lv_at hl 1 rfl) ?_
    refine lv_dup hx hb dX5_call_53 rfl ?_
    have F_25 : f_22 (k 0) = some (.inr (5, [.ref (k 1), .int (nI n), .int (nI hg), .ref (k 2), .ref (k 5), .ref (k 13), .ref (k 21), .int (ca + 1), .int fe, .int cb_24, .ref (k 3), .int (nI wl.length), .ref (k 4), .int sx])) := by have w_ := hM.c0; rw [hl_24] at w_; exact w_
    refine m_get (ci := 5) (v := .int fe) (C := RX5) (T := TX5) (N := 14) hx hb hC hH hts in_X5_call_X5 hown F_25 rfl 8 (by decide) (hts (.fieldLink RX5 116 "LazyState" "fetchCount" "I") (by decide +kernel)) rfl dX5_call_54 ?_
    refine lv_aload_n hx hb dX5_call_57 rfl (lv_at hl 1 rfl) ?_
    refine m_get (ci := 5) (v := .ref (k 5)) (C := RX5) (T := TX5) (N := 14) hx hb hC hH hts in_X5_call_X5 hown F_25 rfl 4 (by decide) (hts (.fieldLink RX5 24 "LazyState" "latest" "LLazyState$Run;") (by decide +kernel)) rfl dX5_call_58 ?_
    have F_26 : f_22 (k 5) = some (.inr (3, [.ref (k 6), .int lb_24, .int (nI R0_.2.2.1), .long (gfS R0_.2.2.2), .int (nI R0_.1), .int (if R0_.1 = 0 then -3 else nI R0_.2.1), va_rf st_24, .ref (k 10), .ref (k 11), .ref (k 12), .int nx_24])) := by have w_ := hM.r0 0 (by decide); rw [hq0_24] at w_; exact w_
    refine m_get (ci := 3) (v := .int lb_24) (C := RX3) (T := TX3) (N := 11) hx hb hC hH hts in_X5_call_X3 hown F_26 rfl 1 (by decide) (hts (.fieldLink RX5 119 "LazyState$Run" "loadedBits" "I") (by decide +kernel)) rfl dX5_call_61 ?_
    refine lv_aload_n hx hb dX5_call_64 rfl (lv_at hl 1 rfl) ?_
    refine m_get (ci := 5) (v := .int cb_24) (C := RX5) (T := TX5) (N := 14) hx hb hC hH hts in_X5_call_X5 hown F_25 rfl 9 (by decide) (hts (.fieldLink RX5 122 "LazyState" "cachedBits" "I") (by decide +kernel)) rfl dX5_call_65 ?_
    refine lv_iconst (v := (-1)) hx hb dX5_call_68 (by decide) ?_
    refine lv_ixor hx hb dX5_call_69 ?_
    refine lv_topi (fun x_27 ex_27 => ?_)
    refine lv_iand hx hb dX5_call_70 ?_
    refine lv_topi (fun x_28 ex_28 => ?_)
    have by_ : ∀ o_, o_ < 32 → btO x_28 o_ = (fun o_ => ldS R0_.2.2.2 o_ && !cq o_) o_ := fun o_ h_ => by rw [ex_28, ex_27, bt_andnot h_, hlb_24 o_ h_]; show (ldS R0_.2.2.2 o_ && !btO cb_24 o_) = (ldS R0_.2.2.2 o_ && !cq o_); by_cases h24_ : o_ < 24; (rw [hcb_24 o_ h24_]); (rw [hld_ o_ (by omega)]; rfl)
    refine m_goi hH (va_runS (As := [.int x_28]) (rest := [.int fe, .ref (k 0)]) ⟨hx, hb, hml, hown, hts⟩ (c_J6_bitCount_0f7a4 l G f_22 x_28) (va_cwS 1 hts gX5_call_J6_bitCount_0f7a4 rfl rfl rfl (by decide +kernel) ⟨Nat.le_of_ble_eq_true rfl, Nat.le_of_ble_eq_true rfl⟩) (m_preS hC hH) rfl rfl hl.1 rfl (lv_room (Nat.le_of_ble_eq_true rfl)) dX5_call_71 ⟨by show _ ≤ 150; omega, by show _ ≤ 1450; omega⟩) (fun r_29 rho_31 f_30 H locs hw hH => ?_)
    obtain ⟨hu, hr_29⟩ := hw
    have hu : f_30 = f_22 := hu
    rw [hu] at hH
    try dsimp only at hr_29
    refine lv_iadd hx hb dX5_call_74 ?_
    refine lv_topi (fun x_32 ex_32 => ?_)
    have bc_ := pcV_24 (p := (fun o_ => ldS R0_.2.2.2 o_ && !cq o_)) hr_29 by_ (fun o_ h_ => by show (ldS R0_.2.2.2 o_ && !cq o_) = false; rw [hld_ o_ h_]; rfl)
    have fz_ : x_32 = feL fe cq R0_.2.2.2 := by rw [ex_32, bc_]; rfl
    rw [fz_]
    refine m_put (ci := 5) (v := .int (feL fe cq R0_.2.2.2)) (C := RX5) (T := TX5) (N := 14) hx hb hC hH hts in_X5_call_X5 tyX5 tyX5_ok nmX5 hown F_25 rfl 8 (by decide) (hts (.fieldLink RX5 116 "LazyState" "fetchCount" "I") (by decide +kernel)) rfl rfl rfl (Nat.le_of_ble_eq_true rfl) dX5_call_75 (fun H locs hH => ?_)
    have hH : mH G s (va_up f_22 (k 0) (some (.inr (5, [.ref (k 1), .int (nI n), .int (nI hg), .ref (k 2), .ref (k 5), .ref (k 13), .ref (k 21), .int (ca + 1), .int (feL fe cq R0_.2.2.2), .int cb_24, .ref (k 3), .int (nI wl.length), .ref (k 4), .int sx])))) H locs := hH
    obtain ⟨f_33, ef_33⟩ : ∃ zz_ : mF, zz_ = va_up f_22 (k 0) (some (.inr (5, [.ref (k 1), .int (nI n), .int (nI hg), .ref (k 2), .ref (k 5), .ref (k 13), .ref (k 21), .int (ca + 1), .int (feL fe cq R0_.2.2.2), .int cb_24, .ref (k 3), .int (nI wl.length), .ref (k 4), .int sx]))) := ⟨_, rfl⟩
    rw [← ef_33] at hH
    have hfr := hfr.up (by rw [hM.ok 0 (by omega)]; exact (by decide : (1 : Nat) ≠ 0)) ef_33
    have hM := hM.setL (n2 := n) (c := (nI hg, (ca + 1), (feL fe cq R0_.2.2.2), cb_24, nI wl.length, sx)) ef_33
    have hG := hG.L (cq2 := cq) (fe2 := (feL fe cq R0_.2.2.2)) (ca2 := (ca + 1)) (cb2 := cb_24) (sx2 := sx) hcb_24
    obtain ⟨D_34, eD_34⟩ : ∃ d_ : tD, d_ = dL D_23 (nI hg, (ca + 1), (feL fe cq R0_.2.2.2), cb_24, nI wl.length, sx) := ⟨_, rfl⟩
    have hM : CM G k rho_17 n z D_34 f_33 := by rw [eD_34]; exact hM
    have hG : GC n T z A hg ver cq (feL fe cq R0_.2.2.2) tms (ca + 1) wl (if R0_.1 = 0 then -3 else nI R0_.2.1) R0_.2.2.1 R0_.1 sx (ldS R0_.2.2.2) (trS R0_.2.2.2) (gfS R0_.2.2.2) D_34 := by rw [eD_34]; exact hG
    have hR0 : RP n T (k 1) 0 (nI R0_.2.2.1) (nI R0_.1) (if R0_.1 = 0 then -3 else nI R0_.2.1) nx_14 R0_.2.2.2 D_34 := by rw [eD_34]; exact hR0
    have n24_ := hG.bs.1
    have hT3_ := hG.bs.2
    have h40_ := hG.h40
    have wl_ := hG.wr.1
    obtain ⟨cb_35, hl_35, hcb_35⟩ := hG.ln
    obtain ⟨⟨lb_35, st_35, nx_35, hq0_35, hlb_35⟩, htr_35, hld_⟩ := hG.lt
    have hlen_ := len_b htr_35.1
    have ol_ := ocn_le (trS R0_.2.2.2)
    have tn_35 : (nI n).toInt = ((n : Nat) : Int) := nI_toInt (by omega)
    have th_35 : (nI hg).toInt = ((hg : Nat) : Int) := nI_toInt (by omega)
    have tw_35 : (nI wl.length).toInt = ((wl.length : Nat) : Int) := nI_toInt (by omega)
    have te_35 : (eD D_34 0).1.toInt = (((trS R0_.2.2.2).length : Nat) : Int) := by rw [htr_35.2.1]; exact nI_toInt (by omega)
    refine lv_aload_n hx hb dX5_call_78 rfl (lv_at hl 1 rfl) ?_
    refine lv_dup hx hb dX5_call_79 rfl ?_
    have F_36 : f_33 (k 0) = some (.inr (5, [.ref (k 1), .int (nI n), .int (nI hg), .ref (k 2), .ref (k 5), .ref (k 13), .ref (k 21), .int (ca + 1), .int (feL fe cq R0_.2.2.2), .int cb_35, .ref (k 3), .int (nI wl.length), .ref (k 4), .int sx])) := by have w_ := hM.c0; rw [hl_35] at w_; exact w_
    refine m_get (ci := 5) (v := .int cb_35) (C := RX5) (T := TX5) (N := 14) hx hb hC hH hts in_X5_call_X5 hown F_36 rfl 9 (by decide) (hts (.fieldLink RX5 122 "LazyState" "cachedBits" "I") (by decide +kernel)) rfl dX5_call_80 ?_
    refine lv_aload_n hx hb dX5_call_83 rfl (lv_at hl 1 rfl) ?_
    refine m_get (ci := 5) (v := .ref (k 5)) (C := RX5) (T := TX5) (N := 14) hx hb hC hH hts in_X5_call_X5 hown F_36 rfl 4 (by decide) (hts (.fieldLink RX5 24 "LazyState" "latest" "LLazyState$Run;") (by decide +kernel)) rfl dX5_call_84 ?_
    have F_37 : f_33 (k 5) = some (.inr (3, [.ref (k 6), .int lb_35, .int (nI R0_.2.2.1), .long (gfS R0_.2.2.2), .int (nI R0_.1), .int (if R0_.1 = 0 then -3 else nI R0_.2.1), va_rf st_35, .ref (k 10), .ref (k 11), .ref (k 12), .int nx_35])) := by have w_ := hM.r0 0 (by decide); rw [hq0_35] at w_; exact w_
    refine m_get (ci := 3) (v := .int lb_35) (C := RX3) (T := TX3) (N := 11) hx hb hC hH hts in_X5_call_X3 hown F_37 rfl 1 (by decide) (hts (.fieldLink RX5 119 "LazyState$Run" "loadedBits" "I") (by decide +kernel)) rfl dX5_call_87 ?_
    refine lv_ior hx hb dX5_call_90 ?_
    refine lv_topi (fun x_38 ex_38 => ?_)
    refine m_put (ci := 5) (v := .int x_38) (C := RX5) (T := TX5) (N := 14) hx hb hC hH hts in_X5_call_X5 tyX5 tyX5_ok nmX5 hown F_36 rfl 9 (by decide) (hts (.fieldLink RX5 122 "LazyState" "cachedBits" "I") (by decide +kernel)) rfl rfl rfl (Nat.le_of_ble_eq_true rfl) dX5_call_91 (fun H locs hH => ?_)
    have hH : mH G s (va_up f_33 (k 0) (some (.inr (5, [.ref (k 1), .int (nI n), .int (nI hg), .ref (k 2), .ref (k 5), .ref (k 13), .ref (k 21), .int (ca + 1), .int (feL fe cq R0_.2.2.2), .int x_38, .ref (k 3), .int (nI wl.length), .ref (k 4), .int sx])))) H locs := hH
    obtain ⟨f_39, ef_39⟩ : ∃ zz_ : mF, zz_ = va_up f_33 (k 0) (some (.inr (5, [.ref (k 1), .int (nI n), .int (nI hg), .ref (k 2), .ref (k 5), .ref (k 13), .ref (k 21), .int (ca + 1), .int (feL fe cq R0_.2.2.2), .int x_38, .ref (k 3), .int (nI wl.length), .ref (k 4), .int sx]))) := ⟨_, rfl⟩
    rw [← ef_39] at hH
    rw [ex_38] at ef_39
    have hfr := hfr.up (by rw [hM.ok 0 (by omega)]; exact (by decide : (1 : Nat) ≠ 0)) ef_39
    have hM := hM.setL (n2 := n) (c := (nI hg, (ca + 1), (feL fe cq R0_.2.2.2), (cb_35 ||| lb_35), nI wl.length, sx)) ef_39
    have hG := hG.L (cq2 := cqL cq R0_.2.2.2) (fe2 := (feL fe cq R0_.2.2.2)) (ca2 := (ca + 1)) (cb2 := (cb_35 ||| lb_35)) (sx2 := sx) (fun q_ hq_ => by rw [bt_orB, hcb_35 q_ hq_, hlb_35 q_ (by omega)]; rfl)
    obtain ⟨D_40, eD_40⟩ : ∃ d_ : tD, d_ = dL D_34 (nI hg, (ca + 1), (feL fe cq R0_.2.2.2), (cb_35 ||| lb_35), nI wl.length, sx) := ⟨_, rfl⟩
    have hM : CM G k rho_17 n z D_40 f_39 := by rw [eD_40]; exact hM
    have hG : GC n T z A hg ver (cqL cq R0_.2.2.2) (feL fe cq R0_.2.2.2) tms (ca + 1) wl (if R0_.1 = 0 then -3 else nI R0_.2.1) R0_.2.2.1 R0_.1 sx (ldS R0_.2.2.2) (trS R0_.2.2.2) (gfS R0_.2.2.2) D_40 := by rw [eD_40]; exact hG
    have hR0 : RP n T (k 1) 0 (nI R0_.2.2.1) (nI R0_.1) (if R0_.1 = 0 then -3 else nI R0_.2.1) nx_14 R0_.2.2.2 D_40 := by rw [eD_40]; exact hR0
    have n24_ := hG.bs.1
    have hT3_ := hG.bs.2
    have h40_ := hG.h40
    have wl_ := hG.wr.1
    obtain ⟨cb_41, hl_41, hcb_41⟩ := hG.ln
    obtain ⟨⟨lb_41, st_41, nx_41, hq0_41, hlb_41⟩, htr_41, hld_⟩ := hG.lt
    have hlen_ := len_b htr_41.1
    have ol_ := ocn_le (trS R0_.2.2.2)
    have tn_41 : (nI n).toInt = ((n : Nat) : Int) := nI_toInt (by omega)
    have th_41 : (nI hg).toInt = ((hg : Nat) : Int) := nI_toInt (by omega)
    have tw_41 : (nI wl.length).toInt = ((wl.length : Nat) : Int) := nI_toInt (by omega)
    have te_41 : (eD D_40 0).1.toInt = (((trS R0_.2.2.2).length : Nat) : Int) := by rw [htr_41.2.1]; exact nI_toInt (by omega)
    refine lv_aload_n hx hb dX5_call_94 rfl (lv_at hl 1 rfl) ?_
    refine lv_iconst (v := 0) hx hb dX5_call_95 (by decide) ?_
    have F_42 : f_39 (k 0) = some (.inr (5, [.ref (k 1), .int (nI n), .int (nI hg), .ref (k 2), .ref (k 5), .ref (k 13), .ref (k 21), .int (ca + 1), .int (feL fe cq R0_.2.2.2), .int cb_41, .ref (k 3), .int (nI wl.length), .ref (k 4), .int sx])) := by have w_ := hM.c0; rw [hl_41] at w_; exact w_
    refine m_put (ci := 5) (v := .int 0) (C := RX5) (T := TX5) (N := 14) hx hb hC hH hts in_X5_call_X5 tyX5 tyX5_ok nmX5 hown F_42 rfl 11 (by decide) (hts (.fieldLink RX5 131 "LazyState" "writtenCount" "I") (by decide +kernel)) rfl rfl rfl (Nat.le_of_ble_eq_true rfl) dX5_call_96 (fun H locs hH => ?_)
    have hH : mH G s (va_up f_39 (k 0) (some (.inr (5, [.ref (k 1), .int (nI n), .int (nI hg), .ref (k 2), .ref (k 5), .ref (k 13), .ref (k 21), .int (ca + 1), .int (feL fe cq R0_.2.2.2), .int cb_41, .ref (k 3), .int 0, .ref (k 4), .int sx])))) H locs := hH
    obtain ⟨f_43, ef_43⟩ : ∃ zz_ : mF, zz_ = va_up f_39 (k 0) (some (.inr (5, [.ref (k 1), .int (nI n), .int (nI hg), .ref (k 2), .ref (k 5), .ref (k 13), .ref (k 21), .int (ca + 1), .int (feL fe cq R0_.2.2.2), .int cb_41, .ref (k 3), .int 0, .ref (k 4), .int sx]))) := ⟨_, rfl⟩
    rw [← ef_43] at hH
    have hfr := hfr.up (by rw [hM.ok 0 (by omega)]; exact (by decide : (1 : Nat) ≠ 0)) ef_43
    have hM := hM.setL (n2 := n) (c := (nI hg, (ca + 1), (feL fe cq R0_.2.2.2), cb_41, nI 0, sx)) ef_43
    have hG := hG.W0 (cb2 := cb_41) hcb_41
    obtain ⟨D_44, eD_44⟩ : ∃ d_ : tD, d_ = dL D_40 (nI hg, (ca + 1), (feL fe cq R0_.2.2.2), cb_41, nI 0, sx) := ⟨_, rfl⟩
    have hM : CM G k rho_17 n z D_44 f_43 := by rw [eD_44]; exact hM
    have hG : GC n T z A hg ver (cqL cq R0_.2.2.2) (feL fe cq R0_.2.2.2) tms (ca + 1) ([] : List Nat) (if R0_.1 = 0 then -3 else nI R0_.2.1) R0_.2.2.1 R0_.1 sx (ldS R0_.2.2.2) (trS R0_.2.2.2) (gfS R0_.2.2.2) D_44 := by rw [eD_44]; exact hG
    have hR0 : RP n T (k 1) 0 (nI R0_.2.2.1) (nI R0_.1) (if R0_.1 = 0 then -3 else nI R0_.2.1) nx_14 R0_.2.2.2 D_44 := by rw [eD_44]; exact hR0
    have n24_ := hG.bs.1
    have hT3_ := hG.bs.2
    have h40_ := hG.h40
    have wl_ := hG.wr.1
    obtain ⟨cb_45, hl_45, hcb_45⟩ := hG.ln
    obtain ⟨⟨lb_45, st_45, nx_45, hq0_45, hlb_45⟩, htr_45, hld_⟩ := hG.lt
    have hlen_ := len_b htr_45.1
    have ol_ := ocn_le (trS R0_.2.2.2)
    have tn_45 : (nI n).toInt = ((n : Nat) : Int) := nI_toInt (by omega)
    have th_45 : (nI hg).toInt = ((hg : Nat) : Int) := nI_toInt (by omega)
    have tw_45 : (nI (([] : List Nat).length)).toInt = ((([] : List Nat).length : Nat) : Int) := nI_toInt (by omega)
    have te_45 : (eD D_44 0).1.toInt = (((trS R0_.2.2.2).length : Nat) : Int) := by rw [htr_45.2.1]; exact nI_toInt (by omega)
    refine lv_aload_n hx hb dX5_call_99 rfl (lv_at hl 1 rfl) ?_
    have F_46 : f_43 (k 0) = some (.inr (5, [.ref (k 1), .int (nI n), .int (nI hg), .ref (k 2), .ref (k 5), .ref (k 13), .ref (k 21), .int (ca + 1), .int (feL fe cq R0_.2.2.2), .int cb_45, .ref (k 3), .int (nI (([] : List Nat).length)), .ref (k 4), .int sx])) := by have w_ := hM.c0; rw [hl_45] at w_; exact w_
    refine m_get (ci := 5) (v := .ref (k 5)) (C := RX5) (T := TX5) (N := 14) hx hb hC hH hts in_X5_call_X5 hown F_46 rfl 4 (by decide) (hts (.fieldLink RX5 24 "LazyState" "latest" "LLazyState$Run;") (by decide +kernel)) rfl dX5_call_100 ?_
    have F_47 : f_43 (k 5) = some (.inr (3, [.ref (k 6), .int lb_45, .int (nI R0_.2.2.1), .long (gfS R0_.2.2.2), .int (nI R0_.1), .int (if R0_.1 = 0 then -3 else nI R0_.2.1), va_rf st_45, .ref (k 10), .ref (k 11), .ref (k 12), .int nx_45])) := by have w_ := hM.r0 0 (by decide); rw [hq0_45] at w_; exact w_
    refine m_get (ci := 3) (v := .int (nI R0_.1)) (C := RX3) (T := TX3) (N := 11) hx hb hC hH hts in_X5_call_X3 hown F_47 rfl 4 (by decide) (hts (.fieldLink RX5 134 "LazyState$Run" "thrown" "I") (by decide +kernel)) rfl dX5_call_103 ?_
    refine lv_if_ne (tgt := 113) hx hb dX5_call_106 (by decide) (fun c_48 => ?_) (fun c_48 => ?_)
    · skip
      have ic_48 : ((nI R0_.1).toInt : Int) ≠ 0 := ic_ne rfl kI_0 c_48
      have t0_ : R0_.1 ≠ 0 := by omega
      refine lv_aload_n hx hb dX5_call_113 rfl (lv_at hl 1 rfl) ?_
      refine m_get (ci := 5) (v := .ref (k 5)) (C := RX5) (T := TX5) (N := 14) hx hb hC hH hts in_X5_call_X5 hown F_46 rfl 4 (by decide) (hts (.fieldLink RX5 24 "LazyState" "latest" "LLazyState$Run;") (by decide +kernel)) rfl dX5_call_114 ?_
      refine m_get (ci := 3) (v := .int (nI R0_.1)) (C := RX3) (T := TX3) (N := 11) hx hb hC hH hts in_X5_call_X3 hown F_47 rfl 4 (by decide) (hts (.fieldLink RX5 134 "LazyState$Run" "thrown" "I") (by decide +kernel)) rfl dX5_call_117 ?_
      exact m_iret (v := nI R0_.1) hx hb hr hlk hC hH rho_17 (by have eC_ : (rnC T z A (ver hg) b.toNatClampNeg o v) = R0_ := eR0_.symm; rw [eC_]; rw [if_neg t0_] at hG; exact ⟨hfr, Or.inr (Or.inr (Or.inl ⟨cr_, cr39_, t0_, rI0_, _, hM, hG⟩))⟩) (by omega) (by omega) dX5_call_120
    · skip
      have ic_48 : ((nI R0_.1).toInt : Int) = 0 := ic_eq rfl kI_0 c_48
      have t0_ : R0_.1 = 0 := by omega
      refine lv_aload_n hx hb dX5_call_109 rfl (lv_at hl 1 rfl) ?_
      refine m_gov hH (va_runV (As := []) (rest := []) ⟨hx, hb, hml, hown, hts⟩ (c_X5_keepChanges l G k rho_17 n T z A hg ver (cqL cq R0_.2.2.2) (feL fe cq R0_.2.2.2) tms (ca + 1) (if R0_.1 = 0 then -3 else nI R0_.2.1) R0_.2.2.1 R0_.1 sx D_44 f_43 hM R0_.2.2.2 hG cr39_ _ _ _ nx_14 hR0) (cwV 0 hts gX5_call_X5_keepChanges rfl rfl rfl (by decide +kernel) ⟨Nat.le_of_ble_eq_true rfl, Nat.le_of_ble_eq_true rfl⟩) (m_preV (ci := 5) hC hH F_46 rfl) rfl rfl hl.1 rfl (lv_room (Nat.le_of_ble_eq_true rfl)) dX5_call_110 ⟨by show _ ≤ 150; omega, by show _ ≤ 1450; omega⟩) (fun rho_51 f_50 H locs hw hH => ?_)
      obtain ⟨hfr1, hk_⟩ := hw
      have hfr1 : frD rho_17 f_43 rho_51 f_50 := hfr1
      have hfr := hfr.trans hfr1
      try dsimp only at hk_
      rcases hk_ with ⟨w0_, D3_, hM, hG⟩ | ⟨w0_, D3_, hM, hG⟩
      · skip
        have n24_ := hG.bs.1
        have hT3_ := hG.bs.2
        have h40_ := hG.h40
        have wl_ := hG.wr.1
        obtain ⟨cb_52, hl_52, hcb_52⟩ := hG.ln
        obtain ⟨⟨lb_52, st_52, nx_52, hq0_52, hlb_52⟩, htr_52, hld_⟩ := hG.lt
        have hlen_ := len_b htr_52.1
        have ol_ := ocn_le (trS R0_.2.2.2)
        have tn_52 : (nI n).toInt = ((n : Nat) : Int) := nI_toInt (by omega)
        have th_52 : (nI hg).toInt = ((hg : Nat) : Int) := nI_toInt (by omega)
        have tw_52 : (nI (([] : List Nat).length)).toInt = ((([] : List Nat).length : Nat) : Int) := nI_toInt (by omega)
        have te_52 : (eD D3_ 0).1.toInt = (((trS R0_.2.2.2).length : Nat) : Int) := by rw [htr_52.2.1]; exact nI_toInt (by omega)
        refine lv_aload_n hx hb dX5_call_113 rfl (lv_at hl 1 rfl) ?_
        have F_53 : f_50 (k 0) = some (.inr (5, [.ref (k 1), .int (nI n), .int (nI hg), .ref (k 2), .ref (k 5), .ref (k 13), .ref (k 21), .int (ca + 1), .int (feL fe cq R0_.2.2.2), .int cb_52, .ref (k 3), .int (nI (([] : List Nat).length)), .ref (k 4), .int sx])) := by have w_ := hM.c0; rw [hl_52] at w_; exact w_
        refine m_get (ci := 5) (v := .ref (k 5)) (C := RX5) (T := TX5) (N := 14) hx hb hC hH hts in_X5_call_X5 hown F_53 rfl 4 (by decide) (hts (.fieldLink RX5 24 "LazyState" "latest" "LLazyState$Run;") (by decide +kernel)) rfl dX5_call_114 ?_
        have F_54 : f_50 (k 5) = some (.inr (3, [.ref (k 6), .int lb_52, .int (nI R0_.2.2.1), .long (gfS R0_.2.2.2), .int (nI R0_.1), .int (if R0_.1 = 0 then -3 else nI R0_.2.1), va_rf st_52, .ref (k 10), .ref (k 11), .ref (k 12), .int nx_52])) := by have w_ := hM.r0 0 (by decide); rw [hq0_52] at w_; exact w_
        refine m_get (ci := 3) (v := .int (nI R0_.1)) (C := RX3) (T := TX3) (N := 11) hx hb hC hH hts in_X5_call_X3 hown F_54 rfl 4 (by decide) (hts (.fieldLink RX5 134 "LazyState$Run" "thrown" "I") (by decide +kernel)) rfl dX5_call_117 ?_
        exact m_iret (v := nI R0_.1) hx hb hr hlk hC hH rho_51 (by have eC_ : (rnC T z A (ver hg) b.toNatClampNeg o v) = R0_ := eR0_.symm; rw [eC_]; rw [if_pos t0_, t0_] at hG; exact ⟨hfr, Or.inr (Or.inr (Or.inr (Or.inl ⟨cr_, cr39_, t0_, by omega, w0_, _, hM, hG⟩)))⟩) (by omega) (by omega) dX5_call_120
      · skip
        have n24_ := hG.bs.1
        have hT3_ := hG.bs.2
        have h40_ := hG.h40
        have wl_ := hG.wr.1
        obtain ⟨cb_55, hl_55, hcb_55⟩ := hG.ln
        obtain ⟨⟨lb_55, st_55, nx_55, hq0_55, hlb_55⟩, htr_55, hld_⟩ := hG.lt
        have hlen_ := len_b htr_55.1
        have ol_ := ocn_le (trS R0_.2.2.2)
        have tn_55 : (nI n).toInt = ((n : Nat) : Int) := nI_toInt (by omega)
        have th_55 : (nI (hg + 1)).toInt = (((hg + 1) : Nat) : Int) := nI_toInt (by omega)
        have tw_55 : (nI ((wls (dif n T (ver hg) (bdS R0_.2.2.2)) 192).length)).toInt = (((wls (dif n T (ver hg) (bdS R0_.2.2.2)) 192).length : Nat) : Int) := nI_toInt (by omega)
        have te_55 : (eD D3_ 0).1.toInt = (((trS R0_.2.2.2).length : Nat) : Int) := by rw [htr_55.2.1]; exact nI_toInt (by omega)
        refine lv_aload_n hx hb dX5_call_113 rfl (lv_at hl 1 rfl) ?_
        have F_56 : f_50 (k 0) = some (.inr (5, [.ref (k 1), .int (nI n), .int (nI (hg + 1)), .ref (k 2), .ref (k 5), .ref (k 13), .ref (k 21), .int (ca + 1), .int (feL fe cq R0_.2.2.2), .int cb_55, .ref (k 3), .int (nI ((wls (dif n T (ver hg) (bdS R0_.2.2.2)) 192).length)), .ref (k 4), .int sx])) := by have w_ := hM.c0; rw [hl_55] at w_; exact w_
        refine m_get (ci := 5) (v := .ref (k 5)) (C := RX5) (T := TX5) (N := 14) hx hb hC hH hts in_X5_call_X5 hown F_56 rfl 4 (by decide) (hts (.fieldLink RX5 24 "LazyState" "latest" "LLazyState$Run;") (by decide +kernel)) rfl dX5_call_114 ?_
        have F_57 : f_50 (k 5) = some (.inr (3, [.ref (k 6), .int lb_55, .int (nI R0_.2.2.1), .long (gfS R0_.2.2.2), .int (nI R0_.1), .int (if R0_.1 = 0 then -3 else nI R0_.2.1), va_rf st_55, .ref (k 10), .ref (k 11), .ref (k 12), .int nx_55])) := by have w_ := hM.r0 0 (by decide); rw [hq0_55] at w_; exact w_
        refine m_get (ci := 3) (v := .int (nI R0_.1)) (C := RX3) (T := TX3) (N := 11) hx hb hC hH hts in_X5_call_X3 hown F_57 rfl 4 (by decide) (hts (.fieldLink RX5 134 "LazyState$Run" "thrown" "I") (by decide +kernel)) rfl dX5_call_117 ?_
        exact m_iret (v := nI R0_.1) hx hb hr hlk hC hH rho_51 (by have eC_ : (rnC T z A (ver hg) b.toNatClampNeg o v) = R0_ := eR0_.symm; rw [eC_]; rw [if_pos t0_, t0_] at hG; exact ⟨hfr, Or.inr (Or.inr (Or.inr (Or.inr ⟨cr_, cr39_, t0_, by omega, w0_, _, hM, hG⟩)))⟩) (by omega) (by omega) dX5_call_120
  · skip
    have ic_6 : (r_2.toInt : Int) ≠ 0 := ic_ne rfl kI_0 c_6
    refine lv_iload hx hb dX5_call_13 (lv_at hl 0 rfl) ?_
    exact m_iret (v := r_2) hx hb hr hlk hC hH own ⟨hfr, hr_2.elim (fun q_ => Or.inl ⟨q_.1, q_.2, _, hM, hG⟩) (fun q_ => q_.elim (fun y_ => Or.inr (Or.inl ⟨y_.1, y_.2.1, y_.2.2, _, hM, hG⟩)) (fun y_ => absurd y_.2.2 (by omega)))⟩ (by omega) (by omega) dX5_call_15
set_option maxHeartbeats 4000000 in
set_option maxRecDepth 100000 in
theorem c_X5_all (l : Launch) (G : mG) (k : Nat → Nat) (own : tR) (n : Nat) (T z : Nat → Nat) (A : Nat → tA) (hg : Nat) (ver : Nat → Nat → tB) (cq : Nat → Bool) (fe : Int32) (tms : Nat → Int32) (ca : Int32) (wl : List Nat) (wh : Int32) (ac th : Nat) (sx : Int32) (ld : Nat → Bool) (tr : List Nat) (gf : Int64) (D : tD) (f : mF) (hM : CM G k own n z D f) (hG : GC n T z A hg ver cq fe tms ca wl wh ac th sx ld tr gf D) (o b : Int32) (v : Int64) : Met l yX5_all wsX5_all ({ frames := 7, cells := 228, slots := 2204, locals := 204 }) (va_Pc [.ref (k 0), .int o, .int b, .long v] (mW G f)) (va_Qi (fun (r : Int32) (u : mS) => frD own f u.1 u.2 ∧ r = alA n hg o b ∧ (∃ D2, CM G k u.1 n z D2 u.2 ∧ GC n T z A hg ver cq fe tms ca wl wh ac th sx ld tr gf D2)) (fun (u : mS) t => mW G u.2 t) (mA G)) 228 2204 (mA G) := by
  refine mMet [.ref (k 0), .int o, .int b, .long v] (cc := cX5_all) (maxL := 6) (ret := (some .int)) (by decide) rfl (Nat.le_of_ble_eq_true rfl) ?_
  intro p e s m below meth c ls hx hb hr hml hts hown hlk hnm hC hH hl
  have hl : lv_has ls 6 [(0, .ref (k 0)), (1, .int o), (2, .int b), (3, .long v)] := hl
  have hfr : frD own f own f := frD.rf
  have n24_ := hG.bs.1
  have hT3_ := hG.bs.2
  have h40_ := hG.h40
  have wl_ := hG.wr.1
  obtain ⟨cb_1, hl_1, hcb_1⟩ := hG.ln
  obtain ⟨⟨lb_1, st_1, nx_1, hq0_1, hlb_1⟩, htr_1, hld_⟩ := hG.lt
  have hlen_ := len_b htr_1.1
  have ol_ := ocn_le tr
  have tn_1 : (nI n).toInt = ((n : Nat) : Int) := nI_toInt (by omega)
  have th_1 : (nI hg).toInt = ((hg : Nat) : Int) := nI_toInt (by omega)
  have tw_1 : (nI wl.length).toInt = ((wl.length : Nat) : Int) := nI_toInt (by omega)
  have te_1 : (eD D 0).1.toInt = ((tr.length : Nat) : Int) := by rw [htr_1.2.1]; exact nI_toInt (by omega)
  refine lv_aload_n hx hb dX5_all_0 rfl (lv_at hl 0 rfl) ?_
  refine lv_iload_n hx hb dX5_all_1 rfl (lv_at hl 1 rfl) ?_
  refine lv_iload_n hx hb dX5_all_2 rfl (lv_at hl 2 rfl) ?_
  have F_5 : f (k 0) = some (.inr (5, [.ref (k 1), .int (nI n), .int (nI hg), .ref (k 2), .ref (k 5), .ref (k 13), .ref (k 21), .int ca, .int fe, .int cb_1, .ref (k 3), .int (nI wl.length), .ref (k 4), .int sx])) := by have w_ := hM.c0; rw [hl_1] at w_; exact w_
  refine m_goi hH (va_runV (As := [.int o, .int b]) (rest := []) ⟨hx, hb, hml, hown, hts⟩ (c_X5_callRefusal l G k own n T z A hg ver cq fe tms ca wl wh ac th sx ld tr gf D f hM hG o b) (cwV 2 hts gX5_all_X5_callRefusal rfl rfl rfl (by decide +kernel) ⟨Nat.le_of_ble_eq_true rfl, Nat.le_of_ble_eq_true rfl⟩) (m_preV (ci := 5) hC hH F_5 rfl) rfl rfl hl.1 rfl (lv_room (Nat.le_of_ble_eq_true rfl)) dX5_all_3 ⟨by show _ ≤ 228; omega, by show _ ≤ 2204; omega⟩) (fun r_2 rho_4 f_3 H locs hw hH => ?_)
  obtain ⟨hu, hr_2⟩ := hw
  have hu : f_3 = f := hu
  rw [hu] at hH
  try dsimp only at hr_2
  refine lv_istore (lv' := [(5, .int r_2), (0, .ref (k 0)), (1, .int o), (2, .int b), (3, .long v)]) hx hb dX5_all_6 hl (by decide) rfl (fun ls hl => ?_)
  refine lv_iload hx hb dX5_all_8 (lv_at hl 0 rfl) ?_
  refine lv_if_eq (tgt := 16) hx hb dX5_all_10 (by decide) (fun c_6 => ?_) (fun c_6 => ?_)
  · skip
    have ic_6 : (r_2.toInt : Int) = 0 := ic_eq rfl kI_0 c_6
    obtain ⟨cr_, cr39_, -⟩ := (hr_2.resolve_left (fun z_ => by omega)).resolve_left (fun z_ => by omega)
    have cb6_ := ic_clN (rfl : b.toInt = _) (by omega)
    have z32_ := hG.z32 b.toNatClampNeg
    refine lv_aload_n hx hb dX5_all_16 rfl (lv_at hl 1 rfl) ?_
    refine m_get (ci := 5) (v := .ref (k 13)) (C := RX5) (T := TX5) (N := 14) hx hb hC hH hts in_X5_all_X5 hown F_5 rfl 5 (by decide) (hts (.fieldLink RX5 28 "LazyState" "lazy" "LLazyState$Run;") (by decide +kernel)) rfl dX5_all_17 ?_
    refine lv_aload_n hx hb dX5_all_20 rfl (lv_at hl 1 rfl) ?_
    refine m_get (ci := 5) (v := .ref (k 1)) (C := RX5) (T := TX5) (N := 14) hx hb hC hH hts in_X5_all_X5 hown F_5 rfl 0 (by decide) (hts (.fieldLink RX5 11 "LazyState" "objects" "[LLazyState$Body;") (by decide +kernel)) rfl dX5_all_21 ?_
    refine lv_iload_n hx hb dX5_all_24 rfl (lv_at hl 2 rfl) ?_
    refine lv_lload_n hx hb dX5_all_25 rfl (lv_at hl 4 rfl) ?_
    obtain ⟨l0_7, ht0_7⟩ := (hG.wf 1 (by decide)).2
    have F_11 : f (k 13) = some (.inr (3, [.ref (k 14), .int ((rD D 1).1), .int ((rD D 1).2.1), .long ((rD D 1).2.2.1), .int ((rD D 1).2.2.2.1), .int ((rD D 1).2.2.2.2.1), va_rf ((rD D 1).2.2.2.2.2.1), .ref (k 18), .ref (k 19), .ref (k 20), .int ((rD D 1).2.2.2.2.2.2)])) := hM.r0 1 (by decide)
    refine m_gov hH (va_runV (As := [.ref (k 1), .int o, .long v]) (rest := []) ⟨hx, hb, hml, hown, hts⟩ (c_X3_start l G k own n T z 1 (by decide) D f hM hG.bs (hG.wf 1 (by decide)).1 (ver hg) (fun q_ h_ => hG.obs.ob h_) (fun q_ h_ => (hG.obs q_ h_).1 hg (Nat.le_refl _)) l0_7 ht0_7 o v (Or.inr (by omega))) (cwV 3 hts gX5_all_X3_start rfl rfl rfl (by decide +kernel) ⟨Nat.le_of_ble_eq_true rfl, Nat.le_of_ble_eq_true rfl⟩) (m_preV (ci := 3) hC hH F_11 rfl) rfl rfl hl.1 rfl (lv_room (Nat.le_of_ble_eq_true rfl)) dX5_all_26 ⟨by show _ ≤ 228; omega, by show _ ≤ 2204; omega⟩) (fun rho_10 f_9 H locs hw hH => ?_)
    obtain ⟨⟨nx_7, D_7, hM, hR1, hK1⟩, hfr1⟩ := hw
    have hM : CM G k rho_10 n z D_7 f_9 := hM
    have hfr1 : frD own f rho_10 f_9 := hfr1
    have hfr := hfr.trans hfr1
    have hl_7 : lD D_7 = (nI hg, ca, fe, cb_1, nI wl.length, sx) := hK1.2.2.1.trans hl_1
    refine lv_aload_n hx hb dX5_all_29 rfl (lv_at hl 1 rfl) ?_
    have F_12 : f_9 (k 0) = some (.inr (5, [.ref (k 1), .int (nI n), .int (nI hg), .ref (k 2), .ref (k 5), .ref (k 13), .ref (k 21), .int ca, .int fe, .int cb_1, .ref (k 3), .int (nI wl.length), .ref (k 4), .int sx])) := by have w_ := hM.c0; rw [hl_7] at w_; exact w_
    refine m_get (ci := 5) (v := .ref (k 13)) (C := RX5) (T := TX5) (N := 14) hx hb hC hH hts in_X5_all_X5 hown F_12 rfl 5 (by decide) (hts (.fieldLink RX5 28 "LazyState" "lazy" "LLazyState$Run;") (by decide +kernel)) rfl dX5_all_30 ?_
    refine lv_aload_n hx hb dX5_all_33 rfl (lv_at hl 1 rfl) ?_
    refine m_get (ci := 5) (v := .ref (k 2)) (C := RX5) (T := TX5) (N := 14) hx hb hC hH hts in_X5_all_X5 hown F_12 rfl 3 (by decide) (hts (.fieldLink RX5 17 "LazyState" "behaviours" "[LLazyState$Behaviour;") (by decide +kernel)) rfl dX5_all_34 ?_
    refine lv_iload_n hx hb dX5_all_37 rfl (lv_at hl 3 rfl) ?_
    have hg_13 := hM.c2
    refine m_aald hx hb hC hH 4 rfl hg_13 (vp_in_iff.mpr ⟨by omega, by omega⟩) dX5_all_38 ?_
    rw [hM.bq b.toNatClampNeg (by have := ic_clN (rfl : b.toInt = _) (by omega); omega)]
    have ha_14 := (hG.run (by decide) hK1 hR1).1
    have nl_14 := nld_le (rnS T (fun q_ => A (32 * b.toNatClampNeg + q_)) (z b.toNatClampNeg) 200 0 0 (s0C (ver hg) o v)).2.2.2
    have F_18 : f_9 (k 13) = some (.inr (3, [.ref (k 14), .int ((rD D_7 1).1), .int ((rD D_7 1).2.1), .long ((rD D_7 1).2.2.1), .int ((rD D_7 1).2.2.2.1), .int ((rD D_7 1).2.2.2.2.1), va_rf ((rD D_7 1).2.2.2.2.2.1), .ref (k 18), .ref (k 19), .ref (k 20), .int ((rD D_7 1).2.2.2.2.2.2)])) := hM.r0 1 (by decide)
    refine m_gov hH (va_runV (As := [.ref (k (29 + 2 * b.toNatClampNeg))]) (rest := []) ⟨hx, hb, hml, hown, hts⟩ (c_X3_work l G k rho_10 n T z 1 (by decide) D_7 0 0 (-3) nx_7 (s0C (ver hg) o v) f_9 hM hR1 b.toNatClampNeg (by omega) z32_ (fun q_ => A (32 * b.toNatClampNeg + q_)) (fun p_ h_ => ha_14 b.toNatClampNeg (by omega) p_ h_) rfl rfl rfl) (cwV 1 hts gX5_all_X3_work rfl rfl rfl (by decide +kernel) ⟨Nat.le_of_ble_eq_true rfl, Nat.le_of_ble_eq_true rfl⟩) (m_preV (ci := 3) hC hH F_18 rfl) rfl rfl hl.1 rfl (lv_room (Nat.le_of_ble_eq_true rfl)) dX5_all_39 ⟨by show _ ≤ 228; omega, by show _ ≤ 2204; omega⟩) (fun rho_17 f_16 H locs hw hH => ?_)
    obtain ⟨⟨nx_14, D_14, hM, hR1, hKw_14⟩, hfr1⟩ := hw
    have hM : CM G k rho_17 n z D_14 f_16 := hM
    have hfr1 : frD rho_10 f_9 rho_17 f_16 := hfr1
    have hfr := hfr.trans hfr1
    have hK1 := hK1.trans hKw_14
    have hl_14 : lD D_14 = (nI hg, ca, fe, cb_1, nI wl.length, sx) := hKw_14.2.2.1.trans hl_7
    have hA_ : ∀ p_, p_ < z b.toNatClampNeg → okA (A (32 * b.toNatClampNeg + p_)) := fun p_ h_ => (hG.acs b.toNatClampNeg (by omega) p_ h_).1
    obtain ⟨R1_, eR1_⟩ : ∃ r_, r_ = (rnS T (fun q_ => A (32 * b.toNatClampNeg + q_)) (z b.toNatClampNeg) 200 0 0 (s0C (ver hg) o v)) := ⟨_, rfl⟩
    have hR1 : RP n T (k 1) 1 (nI R1_.2.2.1) (nI R1_.1) (if R1_.1 = 0 then -3 else nI R1_.2.1) nx_14 R1_.2.2.2 D_14 := by rw [eR1_]; exact hR1
    have r81_ : R1_.1 ≤ 8 := by rw [eR1_]; exact rnS_8 hA_ _ _ _ _
    have rI1_ : (nI R1_.1).toInt = ((R1_.1 : Nat) : Int) := nI_toInt (by omega)
    have hG := hG.runi (by decide) (by decide) hK1 hR1
    have n24_ := hG.bs.1
    have hT3_ := hG.bs.2
    have h40_ := hG.h40
    have wl_ := hG.wr.1
    obtain ⟨cb_19, hl_19, hcb_19⟩ := hG.ln
    obtain ⟨⟨lb_19, st_19, nx_19, hq0_19, hlb_19⟩, htr_19, hld_⟩ := hG.lt
    have hlen_ := len_b htr_19.1
    have ol_ := ocn_le tr
    have tn_19 : (nI n).toInt = ((n : Nat) : Int) := nI_toInt (by omega)
    have th_19 : (nI hg).toInt = ((hg : Nat) : Int) := nI_toInt (by omega)
    have tw_19 : (nI wl.length).toInt = ((wl.length : Nat) : Int) := nI_toInt (by omega)
    have te_19 : (eD D_14 0).1.toInt = ((tr.length : Nat) : Int) := by rw [htr_19.2.1]; exact nI_toInt (by omega)
    refine lv_aload_n hx hb dX5_all_42 rfl (lv_at hl 1 rfl) ?_
    have F_20 : f_16 (k 0) = some (.inr (5, [.ref (k 1), .int (nI n), .int (nI hg), .ref (k 2), .ref (k 5), .ref (k 13), .ref (k 21), .int ca, .int fe, .int cb_19, .ref (k 3), .int (nI wl.length), .ref (k 4), .int sx])) := by have w_ := hM.c0; rw [hl_19] at w_; exact w_
    refine m_get (ci := 5) (v := .ref (k 21)) (C := RX5) (T := TX5) (N := 14) hx hb hC hH hts in_X5_all_X5 hown F_20 rfl 6 (by decide) (hts (.fieldLink RX5 31 "LazyState" "eager" "LLazyState$Run;") (by decide +kernel)) rfl dX5_all_43 ?_
    refine lv_aload_n hx hb dX5_all_46 rfl (lv_at hl 1 rfl) ?_
    refine m_get (ci := 5) (v := .ref (k 1)) (C := RX5) (T := TX5) (N := 14) hx hb hC hH hts in_X5_all_X5 hown F_20 rfl 0 (by decide) (hts (.fieldLink RX5 11 "LazyState" "objects" "[LLazyState$Body;") (by decide +kernel)) rfl dX5_all_47 ?_
    refine lv_iload_n hx hb dX5_all_50 rfl (lv_at hl 2 rfl) ?_
    refine lv_lload_n hx hb dX5_all_51 rfl (lv_at hl 4 rfl) ?_
    obtain ⟨l0_21, ht0_21⟩ := (hG.wf 2 (by decide)).2
    have F_25 : f_16 (k 21) = some (.inr (3, [.ref (k 22), .int ((rD D_14 2).1), .int ((rD D_14 2).2.1), .long ((rD D_14 2).2.2.1), .int ((rD D_14 2).2.2.2.1), .int ((rD D_14 2).2.2.2.2.1), va_rf ((rD D_14 2).2.2.2.2.2.1), .ref (k 26), .ref (k 27), .ref (k 28), .int ((rD D_14 2).2.2.2.2.2.2)])) := hM.r0 2 (by decide)
    refine m_gov hH (va_runV (As := [.ref (k 1), .int o, .long v]) (rest := []) ⟨hx, hb, hml, hown, hts⟩ (c_X3_start l G k rho_17 n T z 2 (by decide) D_14 f_16 hM hG.bs (hG.wf 2 (by decide)).1 (ver hg) (fun q_ h_ => hG.obs.ob h_) (fun q_ h_ => (hG.obs q_ h_).1 hg (Nat.le_refl _)) l0_21 ht0_21 o v (Or.inr (by omega))) (cwV 3 hts gX5_all_X3_start rfl rfl rfl (by decide +kernel) ⟨Nat.le_of_ble_eq_true rfl, Nat.le_of_ble_eq_true rfl⟩) (m_preV (ci := 3) hC hH F_25 rfl) rfl rfl hl.1 rfl (lv_room (Nat.le_of_ble_eq_true rfl)) dX5_all_52 ⟨by show _ ≤ 228; omega, by show _ ≤ 2204; omega⟩) (fun rho_24 f_23 H locs hw hH => ?_)
    obtain ⟨⟨nx_21, D_21, hM, hR2, hK2⟩, hfr1⟩ := hw
    have hM : CM G k rho_24 n z D_21 f_23 := hM
    have hfr1 : frD rho_17 f_16 rho_24 f_23 := hfr1
    have hfr := hfr.trans hfr1
    have hl_21 : lD D_21 = (nI hg, ca, fe, cb_19, nI wl.length, sx) := hK2.2.2.1.trans hl_19
    have hR1 := hR1.kp hK2 (by decide)
    refine lv_aload_n hx hb dX5_all_55 rfl (lv_at hl 1 rfl) ?_
    have F_26 : f_23 (k 0) = some (.inr (5, [.ref (k 1), .int (nI n), .int (nI hg), .ref (k 2), .ref (k 5), .ref (k 13), .ref (k 21), .int ca, .int fe, .int cb_19, .ref (k 3), .int (nI wl.length), .ref (k 4), .int sx])) := by have w_ := hM.c0; rw [hl_21] at w_; exact w_
    refine m_get (ci := 5) (v := .ref (k 21)) (C := RX5) (T := TX5) (N := 14) hx hb hC hH hts in_X5_all_X5 hown F_26 rfl 6 (by decide) (hts (.fieldLink RX5 31 "LazyState" "eager" "LLazyState$Run;") (by decide +kernel)) rfl dX5_all_56 ?_
    refine lv_aload_n hx hb dX5_all_59 rfl (lv_at hl 1 rfl) ?_
    refine m_get (ci := 5) (v := .int (nI n)) (C := RX5) (T := TX5) (N := 14) hx hb hC hH hts in_X5_all_X5 hown F_26 rfl 1 (by decide) (hts (.fieldLink RX5 46 "LazyState" "objectCount" "I") (by decide +kernel)) rfl dX5_all_60 ?_
    have nl_27 := nld_le (ldU n (s0C (ver hg) o v))
    have F_31 : f_23 (k 21) = some (.inr (3, [.ref (k 22), .int ((rD D_21 2).1), .int ((rD D_21 2).2.1), .long ((rD D_21 2).2.2.1), .int ((rD D_21 2).2.2.2.1), .int ((rD D_21 2).2.2.2.2.1), va_rf ((rD D_21 2).2.2.2.2.2.1), .ref (k 26), .ref (k 27), .ref (k 28), .int ((rD D_21 2).2.2.2.2.2.2)])) := hM.r0 2 (by decide)
    refine m_gov hH (va_runV (As := [.int (nI n)]) (rest := []) ⟨hx, hb, hml, hown, hts⟩ (c_X3_loadAhead l G k rho_24 n T z 2 (by decide) D_21 0 0 (-3) nx_21 (s0C (ver hg) o v) f_23 hM hR2 (nI n) (tn_19)) (cwV 1 hts gX5_all_X3_loadAhead rfl rfl rfl (by decide +kernel) ⟨Nat.le_of_ble_eq_true rfl, Nat.le_of_ble_eq_true rfl⟩) (m_preV (ci := 3) hC hH F_31 rfl) rfl rfl hl.1 rfl (lv_room (Nat.le_of_ble_eq_true rfl)) dX5_all_63 ⟨by show _ ≤ 228; omega, by show _ ≤ 2204; omega⟩) (fun rho_30 f_29 H locs hw hH => ?_)
    obtain ⟨⟨D_27, hM, hR2, hKa_27⟩, hfr1⟩ := hw
    have hM : CM G k rho_30 n z D_27 f_29 := hM
    have hfr1 : frD rho_24 f_23 rho_30 f_29 := hfr1
    have hfr := hfr.trans hfr1
    have hK2 := hK2.trans hKa_27
    have hR1 := hR1.kp hKa_27 (by decide)
    have hl_27 : lD D_27 = (nI hg, ca, fe, cb_19, nI wl.length, sx) := hKa_27.2.2.1.trans hl_21
    refine lv_aload_n hx hb dX5_all_66 rfl (lv_at hl 1 rfl) ?_
    have F_32 : f_29 (k 0) = some (.inr (5, [.ref (k 1), .int (nI n), .int (nI hg), .ref (k 2), .ref (k 5), .ref (k 13), .ref (k 21), .int ca, .int fe, .int cb_19, .ref (k 3), .int (nI wl.length), .ref (k 4), .int sx])) := by have w_ := hM.c0; rw [hl_27] at w_; exact w_
    refine m_get (ci := 5) (v := .ref (k 21)) (C := RX5) (T := TX5) (N := 14) hx hb hC hH hts in_X5_all_X5 hown F_32 rfl 6 (by decide) (hts (.fieldLink RX5 31 "LazyState" "eager" "LLazyState$Run;") (by decide +kernel)) rfl dX5_all_67 ?_
    refine lv_aload_n hx hb dX5_all_70 rfl (lv_at hl 1 rfl) ?_
    refine m_get (ci := 5) (v := .ref (k 2)) (C := RX5) (T := TX5) (N := 14) hx hb hC hH hts in_X5_all_X5 hown F_32 rfl 3 (by decide) (hts (.fieldLink RX5 17 "LazyState" "behaviours" "[LLazyState$Behaviour;") (by decide +kernel)) rfl dX5_all_71 ?_
    refine lv_iload_n hx hb dX5_all_74 rfl (lv_at hl 3 rfl) ?_
    have hg_33 := hM.c2
    refine m_aald hx hb hC hH 4 rfl hg_33 (vp_in_iff.mpr ⟨by omega, by omega⟩) dX5_all_75 ?_
    rw [hM.bq b.toNatClampNeg (by have := ic_clN (rfl : b.toInt = _) (by omega); omega)]
    have ha_34 := (hG.run (by decide) hK2 hR2).1
    have nl_34 := nld_le (rnS T (fun q_ => A (32 * b.toNatClampNeg + q_)) (z b.toNatClampNeg) 200 0 0 (ldU n (s0C (ver hg) o v))).2.2.2
    have F_38 : f_29 (k 21) = some (.inr (3, [.ref (k 22), .int ((rD D_27 2).1), .int ((rD D_27 2).2.1), .long ((rD D_27 2).2.2.1), .int ((rD D_27 2).2.2.2.1), .int ((rD D_27 2).2.2.2.2.1), va_rf ((rD D_27 2).2.2.2.2.2.1), .ref (k 26), .ref (k 27), .ref (k 28), .int ((rD D_27 2).2.2.2.2.2.2)])) := hM.r0 2 (by decide)
    refine m_gov hH (va_runV (As := [.ref (k (29 + 2 * b.toNatClampNeg))]) (rest := []) ⟨hx, hb, hml, hown, hts⟩ (c_X3_work l G k rho_30 n T z 2 (by decide) D_27 0 0 (-3) nx_21 (ldU n (s0C (ver hg) o v)) f_29 hM hR2 b.toNatClampNeg (by omega) z32_ (fun q_ => A (32 * b.toNatClampNeg + q_)) (fun p_ h_ => ha_34 b.toNatClampNeg (by omega) p_ h_) rfl rfl rfl) (cwV 1 hts gX5_all_X3_work rfl rfl rfl (by decide +kernel) ⟨Nat.le_of_ble_eq_true rfl, Nat.le_of_ble_eq_true rfl⟩) (m_preV (ci := 3) hC hH F_38 rfl) rfl rfl hl.1 rfl (lv_room (Nat.le_of_ble_eq_true rfl)) dX5_all_76 ⟨by show _ ≤ 228; omega, by show _ ≤ 2204; omega⟩) (fun rho_37 f_36 H locs hw hH => ?_)
    obtain ⟨⟨nx_34, D_34, hM, hR2, hKw_34⟩, hfr1⟩ := hw
    have hM : CM G k rho_37 n z D_34 f_36 := hM
    have hfr1 : frD rho_30 f_29 rho_37 f_36 := hfr1
    have hfr := hfr.trans hfr1
    have hK2 := hK2.trans hKw_34
    have hl_34 : lD D_34 = (nI hg, ca, fe, cb_19, nI wl.length, sx) := hKw_34.2.2.1.trans hl_27
    have hR1 := hR1.kp hKw_34 (by decide)
    have hA_ : ∀ p_, p_ < z b.toNatClampNeg → okA (A (32 * b.toNatClampNeg + p_)) := fun p_ h_ => (hG.acs b.toNatClampNeg (by omega) p_ h_).1
    obtain ⟨R2_, eR2_⟩ : ∃ r_, r_ = (rnS T (fun q_ => A (32 * b.toNatClampNeg + q_)) (z b.toNatClampNeg) 200 0 0 (ldU n (s0C (ver hg) o v))) := ⟨_, rfl⟩
    have hR2 : RP n T (k 1) 2 (nI R2_.2.2.1) (nI R2_.1) (if R2_.1 = 0 then -3 else nI R2_.2.1) nx_34 R2_.2.2.2 D_34 := by rw [eR2_]; exact hR2
    have r82_ : R2_.1 ≤ 8 := by rw [eR2_]; exact rnS_8 hA_ _ _ _ _
    have rI2_ : (nI R2_.1).toInt = ((R2_.1 : Nat) : Int) := nI_toInt (by omega)
    have hGf_ := hG.runi (by decide) (by decide) hK2 hR2
    have re_ := rnS_e (T := T) hA_ 200 0 0 (s0C (ver hg) o v) (ldU n (s0C (ver hg) o v)) (eS_ldU n)
    rw [← eR1_, ← eR2_] at re_
    refine lv_aload_n hx hb dX5_all_79 rfl (lv_at hl 1 rfl) ?_
    have F_39 : f_36 (k 0) = some (.inr (5, [.ref (k 1), .int (nI n), .int (nI hg), .ref (k 2), .ref (k 5), .ref (k 13), .ref (k 21), .int ca, .int fe, .int cb_19, .ref (k 3), .int (nI wl.length), .ref (k 4), .int sx])) := by have w_ := hM.c0; rw [hl_34] at w_; exact w_
    refine m_get (ci := 5) (v := .ref (k 13)) (C := RX5) (T := TX5) (N := 14) hx hb hC hH hts in_X5_all_X5 hown F_39 rfl 5 (by decide) (hts (.fieldLink RX5 28 "LazyState" "lazy" "LLazyState$Run;") (by decide +kernel)) rfl dX5_all_80 ?_
    refine lv_aload_n hx hb dX5_all_83 rfl (lv_at hl 1 rfl) ?_
    refine m_get (ci := 5) (v := .ref (k 21)) (C := RX5) (T := TX5) (N := 14) hx hb hC hH hts in_X5_all_X5 hown F_39 rfl 6 (by decide) (hts (.fieldLink RX5 31 "LazyState" "eager" "LLazyState$Run;") (by decide +kernel)) rfl dX5_all_84 ?_
    have F_43 : f_36 (k 13) = some (.inr (3, [.ref (k 14), .int ((rD D_34 1).1), .int ((rD D_34 1).2.1), .long ((rD D_34 1).2.2.1), .int ((rD D_34 1).2.2.2.1), .int ((rD D_34 1).2.2.2.2.1), va_rf ((rD D_34 1).2.2.2.2.2.1), .ref (k 18), .ref (k 19), .ref (k 20), .int ((rD D_34 1).2.2.2.2.2.2)])) := hM.r0 1 (by decide)
    refine m_goi hH (va_runV (As := [.ref (k 21)]) (rest := []) ⟨hx, hb, hml, hown, hts⟩ (c_X3_endsLike l G k rho_37 n T z 1 (by decide) D_34 _ _ _ nx_14 R1_.2.2.2 f_36 hM hR1 2 (by decide) _ _ _ nx_34 R2_.2.2.2 hR2) (cwV 1 hts gX5_all_X3_endsLike rfl rfl rfl (by decide +kernel) ⟨Nat.le_of_ble_eq_true rfl, Nat.le_of_ble_eq_true rfl⟩) (m_preV (ci := 3) hC hH F_43 rfl) rfl rfl hl.1 rfl (lv_room (Nat.le_of_ble_eq_true rfl)) dX5_all_87 ⟨by show _ ≤ 228; omega, by show _ ≤ 2204; omega⟩) (fun r_40 rho_42 f_41 H locs hw hH => ?_)
    obtain ⟨hu, hr_40⟩ := hw
    have hu : f_41 = f_36 := hu
    rw [hu] at hH
    try dsimp only at hr_40
    refine lv_if_eq (tgt := 115) hx hb dX5_all_90 (by decide) (fun c_44 => ?_) (fun c_44 => ?_)
    · skip
      have ic_44 : (r_40.toInt : Int) = 0 := ic_eq rfl kI_0 c_44
      exact absurd ((hr_40.resolve_left (fun z_ => by omega)).2 ⟨by rw [re_.1], by rw [re_.1, re_.2.1], congrArg (fun q_ => q_.2.2.2) re_.2.2.2.2, congrArg (fun q_ => q_.2.2.1) re_.2.2.2.2⟩) (fun z_ => z_)
    · skip
      have ic_44 : (r_40.toInt : Int) ≠ 0 := ic_ne rfl kI_0 c_44
      refine lv_aload_n hx hb dX5_all_93 rfl (lv_at hl 1 rfl) ?_
      refine m_get (ci := 5) (v := .ref (k 13)) (C := RX5) (T := TX5) (N := 14) hx hb hC hH hts in_X5_all_X5 hown F_39 rfl 5 (by decide) (hts (.fieldLink RX5 28 "LazyState" "lazy" "LLazyState$Run;") (by decide +kernel)) rfl dX5_all_94 ?_
      refine lv_aload_n hx hb dX5_all_97 rfl (lv_at hl 1 rfl) ?_
      refine m_get (ci := 5) (v := .ref (k 21)) (C := RX5) (T := TX5) (N := 14) hx hb hC hH hts in_X5_all_X5 hown F_39 rfl 6 (by decide) (hts (.fieldLink RX5 31 "LazyState" "eager" "LLazyState$Run;") (by decide +kernel)) rfl dX5_all_98 ?_
      refine lv_aload_n hx hb dX5_all_101 rfl (lv_at hl 1 rfl) ?_
      refine m_get (ci := 5) (v := .int (nI n)) (C := RX5) (T := TX5) (N := 14) hx hb hC hH hts in_X5_all_X5 hown F_39 rfl 1 (by decide) (hts (.fieldLink RX5 46 "LazyState" "objectCount" "I") (by decide +kernel)) rfl dX5_all_102 ?_
      refine m_goi hH (va_runV (As := [.ref (k 21), .int (nI n)]) (rest := []) ⟨hx, hb, hml, hown, hts⟩ (c_X3_changesLike l G k rho_37 n T z 1 (by decide) D_34 _ _ _ nx_14 R1_.2.2.2 f_36 hM hR1 2 (by decide) _ _ _ nx_34 R2_.2.2.2 hR2 (nI n) (tn_19)) (cwV 2 hts gX5_all_X3_changesLike rfl rfl rfl (by decide +kernel) ⟨Nat.le_of_ble_eq_true rfl, Nat.le_of_ble_eq_true rfl⟩) (m_preV (ci := 3) hC hH F_43 rfl) rfl rfl hl.1 rfl (lv_room (Nat.le_of_ble_eq_true rfl)) dX5_all_105 ⟨by show _ ≤ 228; omega, by show _ ≤ 2204; omega⟩) (fun r_45 rho_47 f_46 H locs hw hH => ?_)
      obtain ⟨hu, hr_45⟩ := hw
      have hu : f_46 = f_36 := hu
      rw [hu] at hH
      try dsimp only at hr_45
      refine lv_if_eq (tgt := 115) hx hb dX5_all_108 (by decide) (fun c_48 => ?_) (fun c_48 => ?_)
      · skip
        have ic_48 : (r_45.toInt : Int) = 0 := ic_eq rfl kI_0 c_48
        exact absurd ((hr_45.resolve_left (fun z_ => by omega)).2 (Or.inr (fun o_ _ j_ _ => by rw [show bdS R1_.2.2.2 = bdS R2_.2.2.2 from re_.2.2.2.1]; exact sameF.rf))) (fun z_ => z_)
      · skip
        have ic_48 : (r_45.toInt : Int) ≠ 0 := ic_ne rfl kI_0 c_48
        refine lv_iconst (v := 1) hx hb dX5_all_111 (by decide) ?_
        refine lv_goto (tgt := 116) hx hb dX5_all_112 (by decide) ?_
        exact m_iret (v := 1) hx hb hr hlk hC hH rho_37 ⟨hfr, by show 1 = alA n hg o b; rw [show alA n hg o b = (if hg = 40 then -2 else 1) from if_pos cr_, if_neg (by omega)], _, hM, hGf_⟩ (by omega) (by omega) dX5_all_116
  · skip
    have ic_6 : (r_2.toInt : Int) ≠ 0 := ic_ne rfl kI_0 c_6
    refine lv_iload hx hb dX5_all_13 (lv_at hl 0 rfl) ?_
    exact m_iret (v := r_2) hx hb hr hlk hC hH own ⟨hfr, hr_2.elim (fun q_ => Int32.toInt_inj.mp (q_.2.trans (by rw [show alA n hg o b = -1 from if_neg q_.1]; exact kI_m1.symm))) (fun q_ => q_.elim (fun y_ => Int32.toInt_inj.mp (y_.2.2.trans (by rw [show alA n hg o b = (if hg = 40 then -2 else 1) from if_pos y_.1, if_pos y_.2.1]; exact kI_m2.symm))) (fun y_ => absurd y_.2.2 (by omega))), _, hM, hG⟩ (by omega) (by omega) dX5_all_15
