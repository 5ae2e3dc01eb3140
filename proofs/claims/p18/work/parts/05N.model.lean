set_option maxHeartbeats 4000000 in
set_option maxRecDepth 100000 in
theorem c_X6_begin (l : Launch) (G : mG) (h : Nat → Nat) (n : Nat) (T z : Nat → Nat) (A : Nat → tA) (hg : Nat) (ver : Nat → Nat → tB) (cq : Nat → Bool) (fe : Int32) (tms : Nat → Int32) (ca : Int32) (wl : List Nat) (wh : Int32) (ac th : Nat) (sx : Int32) (σ : tS) (f : mF) (hI : FM G h n T z A hg ver cq fe tms ca wl wh ac th sx σ f) (o : Int32) (v : Int64) (ho : 0 ≤ o.toInt ∧ o.toInt < n) : Met l yX6_begin wsX6_begin ({ frames := 2, cells := 0, slots := 0, locals := 49 }) (va_Pc [.ref (h 0), .int o, .long v] (mW G f)) (va_Qv (fun (u : mS) => frM h f u.2 ∧ FM G h n T z A hg ver cq fe tms ca ([]) (-3) 0 0 sx (s0C (ver hg) o v) u.2) (fun (u : mS) t => mW G u.2 t) (mA G)) 0 0 (mA G) := by
  refine mMet [.ref (h 0), .int o, .long v] (cc := cX6_begin) (maxL := 5) (ret := none) (by decide) rfl (Nat.le_of_ble_eq_true rfl) ?_
  intro p e s m below meth c ls hx hb hr hml hts hown hlk hnm hC hH hl
  have hl : lv_has ls 5 [(0, .ref (h 0)), (1, .int o), (2, .long v)] := hl
  have hI0_ := hI
  have hfr : frM h f f := frM.rf
  obtain ⟨I_1, J_1, hM, hR, hac_1, hth_1⟩ := hI
  have hg_1 := hR.hg40
  have n24_1 := hR.n24
  have tl_1 := len_b hR.ok.2.2.1
  have wl_1 := hR.wl192
  have hgI_1 : (nI hg).toInt = ((hg : Nat) : Int) := nI_toInt (by omega)
  have tmI_1 : (nI ((trS σ).length)).toInt = (((trS σ).length : Nat) : Int) := nI_toInt (by omega)
  have wmI_1 : (nI wl.length).toInt = ((wl.length : Nat) : Int) := nI_toInt (by omega)
  have acI_1 : (nI ac).toInt = ((ac : Nat) : Int) := nI_toInt (by omega)
  have thI_1 : (nI th).toInt = ((th : Nat) : Int) := nI_toInt (by omega)
  have nIn_1 : (nI n).toInt = ((n : Nat) : Int) := nI_toInt (by omega)
  refine lv_aload_n hx hb dX6_begin_0 rfl (lv_at hl 0 rfl) ?_
  refine lv_lconst (v := 0) hx hb dX6_begin_1 (by decide) ?_
  have F_2 : f (h 0) = some (.inr (6, [.int (nI n), .ref (h 1), .int (nI hg), .ref (h 3), .ref (h 4), .ref (h 5), .ref (h 6), .int fe, .ref (h 8), .ref (h 9), .ref (h 10), .ref (h 11), .ref (h 12), .ref (h 13), .ref (h 14), .ref (h 15), .int ca, .long (gfS σ), .int wh, .int (nI ((trS σ).length)), .ref (h 20), .ref (h 21), .int (nI wl.length), .ref (h 23), .ref (h 24), .int (nI ac), .ref (h 26), .ref (h 27), .int (nI th), .int sx])) := hM.1
  refine m_put (ci := 6) (v := .long 0) (C := RX6) (T := TX6) (N := 30) hx hb hC hH hts in_X6_begin_X6 tyX6 tyX6_ok nmX6 hown F_2 rfl 17 (by decide) (hts (.fieldLink RX6 186 "LazyStateModel" "gave" "J") (by decide +kernel)) rfl rfl rfl (Nat.le_of_ble_eq_true rfl) dX6_begin_2 (fun H locs hH => ?_)
  have hH : mH G s (va_up f (h 0) (some (.inr (6, [.int (nI n), .ref (h 1), .int (nI hg), .ref (h 3), .ref (h 4), .ref (h 5), .ref (h 6), .int fe, .ref (h 8), .ref (h 9), .ref (h 10), .ref (h 11), .ref (h 12), .ref (h 13), .ref (h 14), .ref (h 15), .int ca, .long 0, .int wh, .int (nI ((trS σ).length)), .ref (h 20), .ref (h 21), .int (nI wl.length), .ref (h 23), .ref (h 24), .int (nI ac), .ref (h 26), .ref (h 27), .int (nI th), .int sx])))) H locs := hH
  obtain ⟨f_3, ef_3⟩ : ∃ zz_ : mF, zz_ = va_up f (h 0) (some (.inr (6, [.int (nI n), .ref (h 1), .int (nI hg), .ref (h 3), .ref (h 4), .ref (h 5), .ref (h 6), .int fe, .ref (h 8), .ref (h 9), .ref (h 10), .ref (h 11), .ref (h 12), .ref (h 13), .ref (h 14), .ref (h 15), .int ca, .long 0, .int wh, .int (nI ((trS σ).length)), .ref (h 20), .ref (h 21), .int (nI wl.length), .ref (h 23), .ref (h 24), .int (nI ac), .ref (h 26), .ref (h 27), .int (nI th), .int sx]))) := ⟨_, rfl⟩
  rw [← ef_3] at hH
  have hM : MEM G h n (nI hg, fe, ca, 0, wh, nI ((trS σ).length), nI wl.length, nI ac, nI th, sx) I_1 J_1 f_3 := hM.set0 ef_3
  have hfr := hfr.up 0 (by decide) ef_3
  refine lv_aload_n hx hb dX6_begin_5 rfl (lv_at hl 0 rfl) ?_
  refine lv_bipush (v := (-3)) hx hb dX6_begin_6 (by decide) ?_
  have F_4 : f_3 (h 0) = some (.inr (6, [.int (nI n), .ref (h 1), .int (nI hg), .ref (h 3), .ref (h 4), .ref (h 5), .ref (h 6), .int fe, .ref (h 8), .ref (h 9), .ref (h 10), .ref (h 11), .ref (h 12), .ref (h 13), .ref (h 14), .ref (h 15), .int ca, .long 0, .int wh, .int (nI ((trS σ).length)), .ref (h 20), .ref (h 21), .int (nI wl.length), .ref (h 23), .ref (h 24), .int (nI ac), .ref (h 26), .ref (h 27), .int (nI th), .int sx])) := hM.1
  refine m_put (ci := 6) (v := .int (-3)) (C := RX6) (T := TX6) (N := 30) hx hb hC hH hts in_X6_begin_X6 tyX6 tyX6_ok nmX6 hown F_4 rfl 18 (by decide) (hts (.fieldLink RX6 52 "LazyStateModel" "where" "I") (by decide +kernel)) rfl rfl rfl (Nat.le_of_ble_eq_true rfl) dX6_begin_8 (fun H locs hH => ?_)
  have hH : mH G s (va_up f_3 (h 0) (some (.inr (6, [.int (nI n), .ref (h 1), .int (nI hg), .ref (h 3), .ref (h 4), .ref (h 5), .ref (h 6), .int fe, .ref (h 8), .ref (h 9), .ref (h 10), .ref (h 11), .ref (h 12), .ref (h 13), .ref (h 14), .ref (h 15), .int ca, .long 0, .int (-3), .int (nI ((trS σ).length)), .ref (h 20), .ref (h 21), .int (nI wl.length), .ref (h 23), .ref (h 24), .int (nI ac), .ref (h 26), .ref (h 27), .int (nI th), .int sx])))) H locs := hH
  obtain ⟨f_5, ef_5⟩ : ∃ zz_ : mF, zz_ = va_up f_3 (h 0) (some (.inr (6, [.int (nI n), .ref (h 1), .int (nI hg), .ref (h 3), .ref (h 4), .ref (h 5), .ref (h 6), .int fe, .ref (h 8), .ref (h 9), .ref (h 10), .ref (h 11), .ref (h 12), .ref (h 13), .ref (h 14), .ref (h 15), .int ca, .long 0, .int (-3), .int (nI ((trS σ).length)), .ref (h 20), .ref (h 21), .int (nI wl.length), .ref (h 23), .ref (h 24), .int (nI ac), .ref (h 26), .ref (h 27), .int (nI th), .int sx]))) := ⟨_, rfl⟩
  rw [← ef_5] at hH
  have hM : MEM G h n (nI hg, fe, ca, 0, (-3), nI ((trS σ).length), nI wl.length, nI ac, nI th, sx) I_1 J_1 f_5 := hM.set0 ef_5
  have hfr := hfr.up 0 (by decide) ef_5
  refine lv_aload_n hx hb dX6_begin_11 rfl (lv_at hl 0 rfl) ?_
  refine lv_iconst (v := 0) hx hb dX6_begin_12 (by decide) ?_
  have F_6 : f_5 (h 0) = some (.inr (6, [.int (nI n), .ref (h 1), .int (nI hg), .ref (h 3), .ref (h 4), .ref (h 5), .ref (h 6), .int fe, .ref (h 8), .ref (h 9), .ref (h 10), .ref (h 11), .ref (h 12), .ref (h 13), .ref (h 14), .ref (h 15), .int ca, .long 0, .int (-3), .int (nI ((trS σ).length)), .ref (h 20), .ref (h 21), .int (nI wl.length), .ref (h 23), .ref (h 24), .int (nI ac), .ref (h 26), .ref (h 27), .int (nI th), .int sx])) := hM.1
  refine m_put (ci := 6) (v := .int 0) (C := RX6) (T := TX6) (N := 30) hx hb hC hH hts in_X6_begin_X6 tyX6 tyX6_ok nmX6 hown F_6 rfl 19 (by decide) (hts (.fieldLink RX6 152 "LazyStateModel" "touchedMany" "I") (by decide +kernel)) rfl rfl rfl (Nat.le_of_ble_eq_true rfl) dX6_begin_13 (fun H locs hH => ?_)
  have hH : mH G s (va_up f_5 (h 0) (some (.inr (6, [.int (nI n), .ref (h 1), .int (nI hg), .ref (h 3), .ref (h 4), .ref (h 5), .ref (h 6), .int fe, .ref (h 8), .ref (h 9), .ref (h 10), .ref (h 11), .ref (h 12), .ref (h 13), .ref (h 14), .ref (h 15), .int ca, .long 0, .int (-3), .int 0, .ref (h 20), .ref (h 21), .int (nI wl.length), .ref (h 23), .ref (h 24), .int (nI ac), .ref (h 26), .ref (h 27), .int (nI th), .int sx])))) H locs := hH
  obtain ⟨f_7, ef_7⟩ : ∃ zz_ : mF, zz_ = va_up f_5 (h 0) (some (.inr (6, [.int (nI n), .ref (h 1), .int (nI hg), .ref (h 3), .ref (h 4), .ref (h 5), .ref (h 6), .int fe, .ref (h 8), .ref (h 9), .ref (h 10), .ref (h 11), .ref (h 12), .ref (h 13), .ref (h 14), .ref (h 15), .int ca, .long 0, .int (-3), .int 0, .ref (h 20), .ref (h 21), .int (nI wl.length), .ref (h 23), .ref (h 24), .int (nI ac), .ref (h 26), .ref (h 27), .int (nI th), .int sx]))) := ⟨_, rfl⟩
  rw [← ef_7] at hH
  have hM : MEM G h n (nI hg, fe, ca, 0, (-3), 0, nI wl.length, nI ac, nI th, sx) I_1 J_1 f_7 := hM.set0 ef_7
  have hfr := hfr.up 0 (by decide) ef_7
  refine lv_aload_n hx hb dX6_begin_16 rfl (lv_at hl 0 rfl) ?_
  refine lv_iconst (v := 0) hx hb dX6_begin_17 (by decide) ?_
  have F_8 : f_7 (h 0) = some (.inr (6, [.int (nI n), .ref (h 1), .int (nI hg), .ref (h 3), .ref (h 4), .ref (h 5), .ref (h 6), .int fe, .ref (h 8), .ref (h 9), .ref (h 10), .ref (h 11), .ref (h 12), .ref (h 13), .ref (h 14), .ref (h 15), .int ca, .long 0, .int (-3), .int 0, .ref (h 20), .ref (h 21), .int (nI wl.length), .ref (h 23), .ref (h 24), .int (nI ac), .ref (h 26), .ref (h 27), .int (nI th), .int sx])) := hM.1
  refine m_put (ci := 6) (v := .int 0) (C := RX6) (T := TX6) (N := 30) hx hb hC hH hts in_X6_begin_X6 tyX6 tyX6_ok nmX6 hown F_8 rfl 22 (by decide) (hts (.fieldLink RX6 196 "LazyStateModel" "writtenMany" "I") (by decide +kernel)) rfl rfl rfl (Nat.le_of_ble_eq_true rfl) dX6_begin_18 (fun H locs hH => ?_)
  have hH : mH G s (va_up f_7 (h 0) (some (.inr (6, [.int (nI n), .ref (h 1), .int (nI hg), .ref (h 3), .ref (h 4), .ref (h 5), .ref (h 6), .int fe, .ref (h 8), .ref (h 9), .ref (h 10), .ref (h 11), .ref (h 12), .ref (h 13), .ref (h 14), .ref (h 15), .int ca, .long 0, .int (-3), .int 0, .ref (h 20), .ref (h 21), .int 0, .ref (h 23), .ref (h 24), .int (nI ac), .ref (h 26), .ref (h 27), .int (nI th), .int sx])))) H locs := hH
  obtain ⟨f_9, ef_9⟩ : ∃ zz_ : mF, zz_ = va_up f_7 (h 0) (some (.inr (6, [.int (nI n), .ref (h 1), .int (nI hg), .ref (h 3), .ref (h 4), .ref (h 5), .ref (h 6), .int fe, .ref (h 8), .ref (h 9), .ref (h 10), .ref (h 11), .ref (h 12), .ref (h 13), .ref (h 14), .ref (h 15), .int ca, .long 0, .int (-3), .int 0, .ref (h 20), .ref (h 21), .int 0, .ref (h 23), .ref (h 24), .int (nI ac), .ref (h 26), .ref (h 27), .int (nI th), .int sx]))) := ⟨_, rfl⟩
  rw [← ef_9] at hH
  have hM : MEM G h n (nI hg, fe, ca, 0, (-3), 0, 0, nI ac, nI th, sx) I_1 J_1 f_9 := hM.set0 ef_9
  have hfr := hfr.up 0 (by decide) ef_9
  refine lv_aload_n hx hb dX6_begin_21 rfl (lv_at hl 0 rfl) ?_
  refine lv_iconst (v := 0) hx hb dX6_begin_22 (by decide) ?_
  have F_10 : f_9 (h 0) = some (.inr (6, [.int (nI n), .ref (h 1), .int (nI hg), .ref (h 3), .ref (h 4), .ref (h 5), .ref (h 6), .int fe, .ref (h 8), .ref (h 9), .ref (h 10), .ref (h 11), .ref (h 12), .ref (h 13), .ref (h 14), .ref (h 15), .int ca, .long 0, .int (-3), .int 0, .ref (h 20), .ref (h 21), .int 0, .ref (h 23), .ref (h 24), .int (nI ac), .ref (h 26), .ref (h 27), .int (nI th), .int sx])) := hM.1
  refine m_put (ci := 6) (v := .int 0) (C := RX6) (T := TX6) (N := 30) hx hb hC hH hts in_X6_begin_X6 tyX6 tyX6_ok nmX6 hown F_10 rfl 25 (by decide) (hts (.fieldLink RX6 199 "LazyStateModel" "acts" "I") (by decide +kernel)) rfl rfl rfl (Nat.le_of_ble_eq_true rfl) dX6_begin_23 (fun H locs hH => ?_)
  have hH : mH G s (va_up f_9 (h 0) (some (.inr (6, [.int (nI n), .ref (h 1), .int (nI hg), .ref (h 3), .ref (h 4), .ref (h 5), .ref (h 6), .int fe, .ref (h 8), .ref (h 9), .ref (h 10), .ref (h 11), .ref (h 12), .ref (h 13), .ref (h 14), .ref (h 15), .int ca, .long 0, .int (-3), .int 0, .ref (h 20), .ref (h 21), .int 0, .ref (h 23), .ref (h 24), .int 0, .ref (h 26), .ref (h 27), .int (nI th), .int sx])))) H locs := hH
  obtain ⟨f_11, ef_11⟩ : ∃ zz_ : mF, zz_ = va_up f_9 (h 0) (some (.inr (6, [.int (nI n), .ref (h 1), .int (nI hg), .ref (h 3), .ref (h 4), .ref (h 5), .ref (h 6), .int fe, .ref (h 8), .ref (h 9), .ref (h 10), .ref (h 11), .ref (h 12), .ref (h 13), .ref (h 14), .ref (h 15), .int ca, .long 0, .int (-3), .int 0, .ref (h 20), .ref (h 21), .int 0, .ref (h 23), .ref (h 24), .int 0, .ref (h 26), .ref (h 27), .int (nI th), .int sx]))) := ⟨_, rfl⟩
  rw [← ef_11] at hH
  have hM : MEM G h n (nI hg, fe, ca, 0, (-3), 0, 0, 0, nI th, sx) I_1 J_1 f_11 := hM.set0 ef_11
  have hfr := hfr.up 0 (by decide) ef_11
  refine lv_aload_n hx hb dX6_begin_26 rfl (lv_at hl 0 rfl) ?_
  refine lv_iconst (v := 0) hx hb dX6_begin_27 (by decide) ?_
  have F_12 : f_11 (h 0) = some (.inr (6, [.int (nI n), .ref (h 1), .int (nI hg), .ref (h 3), .ref (h 4), .ref (h 5), .ref (h 6), .int fe, .ref (h 8), .ref (h 9), .ref (h 10), .ref (h 11), .ref (h 12), .ref (h 13), .ref (h 14), .ref (h 15), .int ca, .long 0, .int (-3), .int 0, .ref (h 20), .ref (h 21), .int 0, .ref (h 23), .ref (h 24), .int 0, .ref (h 26), .ref (h 27), .int (nI th), .int sx])) := hM.1
  refine m_put (ci := 6) (v := .int 0) (C := RX6) (T := TX6) (N := 30) hx hb hC hH hts in_X6_begin_X6 tyX6 tyX6_ok nmX6 hown F_12 rfl 28 (by decide) (hts (.fieldLink RX6 155 "LazyStateModel" "threw" "I") (by decide +kernel)) rfl rfl rfl (Nat.le_of_ble_eq_true rfl) dX6_begin_28 (fun H locs hH => ?_)
  have hH : mH G s (va_up f_11 (h 0) (some (.inr (6, [.int (nI n), .ref (h 1), .int (nI hg), .ref (h 3), .ref (h 4), .ref (h 5), .ref (h 6), .int fe, .ref (h 8), .ref (h 9), .ref (h 10), .ref (h 11), .ref (h 12), .ref (h 13), .ref (h 14), .ref (h 15), .int ca, .long 0, .int (-3), .int 0, .ref (h 20), .ref (h 21), .int 0, .ref (h 23), .ref (h 24), .int 0, .ref (h 26), .ref (h 27), .int 0, .int sx])))) H locs := hH
  obtain ⟨f_13, ef_13⟩ : ∃ zz_ : mF, zz_ = va_up f_11 (h 0) (some (.inr (6, [.int (nI n), .ref (h 1), .int (nI hg), .ref (h 3), .ref (h 4), .ref (h 5), .ref (h 6), .int fe, .ref (h 8), .ref (h 9), .ref (h 10), .ref (h 11), .ref (h 12), .ref (h 13), .ref (h 14), .ref (h 15), .int ca, .long 0, .int (-3), .int 0, .ref (h 20), .ref (h 21), .int 0, .ref (h 23), .ref (h 24), .int 0, .ref (h 26), .ref (h 27), .int 0, .int sx]))) := ⟨_, rfl⟩
  rw [← ef_13] at hH
  have hM : MEM G h n (nI hg, fe, ca, 0, (-3), 0, 0, 0, 0, sx) I_1 J_1 f_13 := hM.set0 ef_13
  have hfr := hfr.up 0 (by decide) ef_13
  refine lv_iconst (v := 0) hx hb dX6_begin_31 (by decide) ?_
  refine lv_istore (lv' := [(4, .int 0), (0, .ref (h 0)), (1, .int o), (2, .long v)]) hx hb dX6_begin_32 hl (by decide) rfl (fun ls hl => ?_)
  have loop_34 : ∀ (fuel_ : Nat) (k4 : Int32) (fL : mF) (gL : Nat → Int32) (h0_ : 0 ≤ k4.toInt) (h1_ : k4.toInt ≤ 24) (hfr : frM h f fL) (hM : MEM G h n (nI hg, fe, ca, 0, (-3), 0, 0, 0, 0, sx) (va_up I_1 24 gL) J_1 fL) (hz : ∀ o : Nat, (o : Int) < k4.toInt → gL o = 0) (_ : ((24 : Int) - k4.toInt).toNat < fuel_) (H : Heap) (locs : List Loc) (ls : Array Slot) (_ : mH G s fL H locs) (_ : lv_has ls 5 [(0, .ref (h 0)), (1, .int o), (2, .long v), (4, .int k4)]), W p l e ({ frames := 2, cells := 0, slots := 0, locals := 49 } : Room) s m ([.ref (h 0), .int o, .long v] : List Value).toArray below meth c H locs 0 0 (MQ below (va_Qv (fun (u : mS) => frM h f u.2 ∧ FM G h n T z A hg ver cq fe tms ca ([]) (-3) 0 0 sx (s0C (ver hg) o v) u.2) (fun (u : mS) t => mW G u.2 t) (mA G)) ([.ref (h 0), .int o, .long v] : List Value).toArray s 0 0 (mA G)) (F0 m 34 ls []) := by
    intro N_34
    induction N_34 with
    | zero => intro k4 fL gL h0_ h1_ hfr hM hz hN; omega
    | succ N_34 ih_34 =>
      intro k4 fL gL h0_ h1_ hfr hM hz hN_34 H locs ls hH hl
      refine lv_iload hx hb dX6_begin_34 (lv_at hl 3 rfl) ?_
      refine lv_bipush (v := 24) hx hb dX6_begin_36 (by decide) ?_
      refine lv_icmp_ge (tgt := 55) hx hb dX6_begin_38 (by decide) (fun c_14 => ?_) (fun c_14 => ?_)
      · skip
        have ic_14 : (24 : Int) ≤ k4.toInt := ic_le kI_24 rfl c_14
        have hz24_ := hz
        refine lv_iconst (v := 0) hx hb dX6_begin_55 (by decide) ?_
        refine lv_istore (lv' := [(4, .int 0), (0, .ref (h 0)), (1, .int o), (2, .long v)]) hx hb dX6_begin_56 hl (by decide) rfl (fun ls hl => ?_)
        have loop_58 : ∀ (fuel_ : Nat) (k4 : Int32) (fM : mF) (g6L : Nat → Int32) (g7L : Nat → Int64) (h0_ : 0 ≤ k4.toInt) (h1_ : k4.toInt ≤ 4) (hfr : frM h f fM) (hM : MEM G h n (nI hg, fe, ca, 0, (-3), 0, 0, 0, 0, sx) (va_up (va_up I_1 24 gL) 26 g6L) (va_up J_1 27 g7L) fM) (hz6 : ∀ o : Nat, (o : Int) < k4.toInt → g6L o = -3) (hz7 : ∀ o : Nat, (o : Int) < k4.toInt → g7L o = 0) (_ : ((4 : Int) - k4.toInt).toNat < fuel_) (H : Heap) (locs : List Loc) (ls : Array Slot) (_ : mH G s fM H locs) (_ : lv_has ls 5 [(0, .ref (h 0)), (1, .int o), (2, .long v), (4, .int k4)]), W p l e ({ frames := 2, cells := 0, slots := 0, locals := 49 } : Room) s m ([.ref (h 0), .int o, .long v] : List Value).toArray below meth c H locs 0 0 (MQ below (va_Qv (fun (u : mS) => frM h f u.2 ∧ FM G h n T z A hg ver cq fe tms ca ([]) (-3) 0 0 sx (s0C (ver hg) o v) u.2) (fun (u : mS) t => mW G u.2 t) (mA G)) ([.ref (h 0), .int o, .long v] : List Value).toArray s 0 0 (mA G)) (F0 m 58 ls []) := by
          intro N_58
          induction N_58 with
          | zero => intro k4 fM g6L g7L h0_ h1_ hfr hM hz6 hz7 hN; omega
          | succ N_58 ih_58 =>
            intro k4 fM g6L g7L h0_ h1_ hfr hM hz6 hz7 hN_58 H locs ls hH hl
            refine lv_iload hx hb dX6_begin_58 (lv_at hl 3 rfl) ?_
            refine lv_iconst (v := 4) hx hb dX6_begin_60 (by decide) ?_
            refine lv_icmp_ge (tgt := 87) hx hb dX6_begin_61 (by decide) (fun c_15 => ?_) (fun c_15 => ?_)
            · skip
              have ic_15 : (4 : Int) ≤ k4.toInt := ic_le kI_4 rfl c_15
              refine lv_aload_n hx hb dX6_begin_87 rfl (lv_at hl 0 rfl) ?_
              have F_16 : fM (h 0) = some (.inr (6, [.int (nI n), .ref (h 1), .int (nI hg), .ref (h 3), .ref (h 4), .ref (h 5), .ref (h 6), .int fe, .ref (h 8), .ref (h 9), .ref (h 10), .ref (h 11), .ref (h 12), .ref (h 13), .ref (h 14), .ref (h 15), .int ca, .long 0, .int (-3), .int 0, .ref (h 20), .ref (h 21), .int 0, .ref (h 23), .ref (h 24), .int 0, .ref (h 26), .ref (h 27), .int 0, .int sx])) := hM.1
              refine m_get (ci := 6) (v := .ref (h 26)) (C := RX6) (T := TX6) (N := 30) hx hb hC hH hts in_X6_begin_X6 hown F_16 rfl 26 (by decide) (hts (.fieldLink RX6 68 "LazyStateModel" "handles" "[I") (by decide +kernel)) rfl dX6_begin_88 ?_
              refine lv_iconst (v := 0) hx hb dX6_begin_91 (by decide) ?_
              refine lv_iload_n hx hb dX6_begin_92 rfl (lv_at hl 1 rfl) ?_
              have hg_17 : fM (h 26) = some (.inl (gk G 0, 4, .inl g6L)) := hM.2.1 26 (by decide) rfl
              refine m_iast hx hb hC hH hg_17 (vp_in_iff.mpr (by rw [kI_0]; exact ⟨by omega, by omega⟩)) dX6_begin_93 (fun H locs hH => ?_)
              obtain ⟨f_18, ef_18⟩ : ∃ zz_ : mF, zz_ = va_up fM (h 26) (some (.inl (gk G 0, 4, .inl (upd g6L ((0 : Int32).toNatClampNeg) o)))) := ⟨_, rfl⟩
              rw [← ef_18] at hH
              have hM : MEM G h n (nI hg, fe, ca, 0, (-3), 0, 0, 0, 0, sx) (va_up (va_up (va_up I_1 24 gL) 26 g6L) 26 (upd g6L ((0 : Int32).toNatClampNeg) o)) (va_up J_1 27 g7L) f_18 := hM.setI 26 (by decide) rfl ef_18
              have hfr := hfr.up 26 (by decide) ef_18
              rw [bx_uu] at hM
              have hy6_ : ∀ x : Nat, x < 4 → (upd g6L (0 : Int32).toNatClampNeg o) x = if x = 0 then o else -3 := fun x hx_ => by unfold upd; rw [show (0 : Int32).toNatClampNeg = 0 from rfl]; split; rfl; exact hz6 x (by omega)
              refine lv_aload_n hx hb dX6_begin_94 rfl (lv_at hl 0 rfl) ?_
              have F_19 : f_18 (h 0) = some (.inr (6, [.int (nI n), .ref (h 1), .int (nI hg), .ref (h 3), .ref (h 4), .ref (h 5), .ref (h 6), .int fe, .ref (h 8), .ref (h 9), .ref (h 10), .ref (h 11), .ref (h 12), .ref (h 13), .ref (h 14), .ref (h 15), .int ca, .long 0, .int (-3), .int 0, .ref (h 20), .ref (h 21), .int 0, .ref (h 23), .ref (h 24), .int 0, .ref (h 26), .ref (h 27), .int 0, .int sx])) := hM.1
              refine m_get (ci := 6) (v := .ref (h 27)) (C := RX6) (T := TX6) (N := 30) hx hb hC hH hts in_X6_begin_X6 hown F_19 rfl 27 (by decide) (hts (.fieldLink RX6 71 "LazyStateModel" "values" "[J") (by decide +kernel)) rfl dX6_begin_95 ?_
              refine lv_iconst (v := 0) hx hb dX6_begin_98 (by decide) ?_
              refine lv_lload_n hx hb dX6_begin_99 rfl (lv_at hl 2 rfl) ?_
              have hg_20 : f_18 (h 27) = some (.inl (gk G 1, 4, .inr (.inl g7L))) := hM.2.2.1 27 (by decide) rfl
              refine m_last hx hb hC hH hg_20 (vp_in_iff.mpr (by rw [kI_0]; exact ⟨by omega, by omega⟩)) dX6_begin_100 (fun H locs hH => ?_)
              obtain ⟨f_21, ef_21⟩ : ∃ zz_ : mF, zz_ = va_up f_18 (h 27) (some (.inl (gk G 1, 4, .inr (.inl (vp_updL g7L ((0 : Int32).toNatClampNeg) v))))) := ⟨_, rfl⟩
              rw [← ef_21] at hH
              have hM : MEM G h n (nI hg, fe, ca, 0, (-3), 0, 0, 0, 0, sx) (va_up (va_up I_1 24 gL) 26 (upd g6L (0 : Int32).toNatClampNeg o)) (va_up (va_up J_1 27 g7L) 27 (vp_updL g7L ((0 : Int32).toNatClampNeg) v)) f_21 := hM.setJ 27 (by decide) rfl ef_21
              have hfr := hfr.up 27 (by decide) ef_21
              rw [bx_uu] at hM
              have hy7_ : ∀ x : Nat, x < 4 → (vp_updL g7L (0 : Int32).toNatClampNeg v) x = if x = 0 then v else 0 := fun x hx_ => by unfold vp_updL; rw [show (0 : Int32).toNatClampNeg = 0 from rfl]; split; rfl; exact hz7 x (by omega)
              refine lv_aload_n hx hb dX6_begin_101 rfl (lv_at hl 0 rfl) ?_
              refine lv_aload_n hx hb dX6_begin_102 rfl (lv_at hl 0 rfl) ?_
              have F_22 : f_21 (h 0) = some (.inr (6, [.int (nI n), .ref (h 1), .int (nI hg), .ref (h 3), .ref (h 4), .ref (h 5), .ref (h 6), .int fe, .ref (h 8), .ref (h 9), .ref (h 10), .ref (h 11), .ref (h 12), .ref (h 13), .ref (h 14), .ref (h 15), .int ca, .long 0, .int (-3), .int 0, .ref (h 20), .ref (h 21), .int 0, .ref (h 23), .ref (h 24), .int 0, .ref (h 26), .ref (h 27), .int 0, .int sx])) := hM.1
              refine m_get (ci := 6) (v := .int (nI hg)) (C := RX6) (T := TX6) (N := 30) hx hb hC hH hts in_X6_begin_X6 hown F_22 rfl 2 (by decide) (hts (.fieldLink RX6 104 "LazyStateModel" "height" "I") (by decide +kernel)) rfl dX6_begin_103 ?_
              refine lv_bipush (v := 41) hx hb dX6_begin_106 (by decide) ?_
              refine m_gov hH (va_runV (As := [.int (nI hg), .int 41]) (rest := []) ⟨hx, hb, hml, hown, hts⟩ (c_X6_copyAll l G h n (nI hg, fe, ca, 0, (-3), 0, 0, 0, 0, sx) (va_up (va_up I_1 24 gL) 26 (upd g6L (0 : Int32).toNatClampNeg o)) (va_up J_1 27 (vp_updL g7L (0 : Int32).toNatClampNeg v)) f_21 hM (nI hg) 41 (by have := hgI_1; have := kI_41; omega) (by have := hgI_1; have := kI_41; omega)) (cwV 2 hts gX6_begin_X6_copyAll rfl rfl rfl (by decide +kernel) ⟨Nat.le_of_ble_eq_true rfl, Nat.le_of_ble_eq_true rfl⟩) (m_preV (ci := 6) hC hH F_22 rfl) rfl rfl hl.1 rfl (lv_room (Nat.le_of_ble_eq_true rfl)) dX6_begin_108 ⟨Nat.le_of_ble_eq_true rfl, Nat.le_of_ble_eq_true rfl⟩) (fun rho_25 f_24 H locs hw hH => ?_)
              obtain ⟨hfr1, hM⟩ := hw
              have hfr1 : frM h f_21 f_24 := hfr1
              have hfr := hfr.trans hfr1
              have hM : MEM G h n (nI hg, fe, ca, 0, (-3), 0, 0, 0, 0, sx) (va_up (va_up (va_up (va_up I_1 24 gL) 26 (upd g6L (0 : Int32).toNatClampNeg o)) 4 (va_cpy (I_1 4) (I_1 4) (192 * (nI hg).toNatClampNeg) (192 * (41 : Int32).toNatClampNeg) 192)) 5 (va_cpy (I_1 5) (I_1 5) (1536 * (nI hg).toNatClampNeg) (1536 * (41 : Int32).toNatClampNeg) (8 * 192))) (va_up (va_up J_1 27 (vp_updL g7L (0 : Int32).toNatClampNeg v)) 3 (va_cpy (J_1 3) (J_1 3) (192 * (nI hg).toNatClampNeg) (192 * (41 : Int32).toNatClampNeg) 192)) f_24 := hM
              rw [show (nI hg).toNatClampNeg = hg from (nI_cl (by omega))] at hM
              rw [show (41 : Int32).toNatClampNeg = 41 from rfl] at hM
              have hR2_ := (hR.beg (o := o) (v := v) (Or.inr (by omega)) (fun q_ hq_ => hz24_ q_ (by omega)) hy6_ hy7_).toAT
              exact m_vret hx hb hr hlk hC hH (fun _ => (0, 0)) ⟨hfr, _, _, hM, hR2_, by omega, by omega⟩ (Nat.le_of_ble_eq_true rfl) (Nat.le_of_ble_eq_true rfl) dX6_begin_111
            · skip
              have ic_15 : (4 : Int) > k4.toInt := ic_nle kI_4 rfl c_15
              refine lv_aload_n hx hb dX6_begin_64 rfl (lv_at hl 0 rfl) ?_
              have F_26 : fM (h 0) = some (.inr (6, [.int (nI n), .ref (h 1), .int (nI hg), .ref (h 3), .ref (h 4), .ref (h 5), .ref (h 6), .int fe, .ref (h 8), .ref (h 9), .ref (h 10), .ref (h 11), .ref (h 12), .ref (h 13), .ref (h 14), .ref (h 15), .int ca, .long 0, .int (-3), .int 0, .ref (h 20), .ref (h 21), .int 0, .ref (h 23), .ref (h 24), .int 0, .ref (h 26), .ref (h 27), .int 0, .int sx])) := hM.1
              refine m_get (ci := 6) (v := .ref (h 26)) (C := RX6) (T := TX6) (N := 30) hx hb hC hH hts in_X6_begin_X6 hown F_26 rfl 26 (by decide) (hts (.fieldLink RX6 68 "LazyStateModel" "handles" "[I") (by decide +kernel)) rfl dX6_begin_65 ?_
              refine lv_iload hx hb dX6_begin_68 (lv_at hl 3 rfl) ?_
              refine lv_bipush (v := (-3)) hx hb dX6_begin_70 (by decide) ?_
              have hg_27 : fM (h 26) = some (.inl (gk G 0, 4, .inl g6L)) := hM.2.1 26 (by decide) rfl
              refine m_iast hx hb hC hH hg_27 (vp_in_iff.mpr ⟨by omega, by omega⟩) dX6_begin_72 (fun H locs hH => ?_)
              obtain ⟨f_28, ef_28⟩ : ∃ zz_ : mF, zz_ = va_up fM (h 26) (some (.inl (gk G 0, 4, .inl (upd g6L k4.toNatClampNeg (-3))))) := ⟨_, rfl⟩
              rw [← ef_28] at hH
              have hM : MEM G h n (nI hg, fe, ca, 0, (-3), 0, 0, 0, 0, sx) (va_up (va_up (va_up I_1 24 gL) 26 g6L) 26 (upd g6L k4.toNatClampNeg (-3))) (va_up J_1 27 g7L) f_28 := hM.setI 26 (by decide) rfl ef_28
              have hfr := hfr.up 26 (by decide) ef_28
              rw [bx_uu] at hM
              have hy6_ : ∀ o : Nat, (o : Int) < k4.toInt + 1 → (upd g6L k4.toNatClampNeg (-3)) o = -3 := fun o ho => by have := ic_clN (rfl : k4.toInt = _) (by omega); unfold upd; split; rfl; exact hz6 o (by omega)
              refine lv_aload_n hx hb dX6_begin_73 rfl (lv_at hl 0 rfl) ?_
              have F_29 : f_28 (h 0) = some (.inr (6, [.int (nI n), .ref (h 1), .int (nI hg), .ref (h 3), .ref (h 4), .ref (h 5), .ref (h 6), .int fe, .ref (h 8), .ref (h 9), .ref (h 10), .ref (h 11), .ref (h 12), .ref (h 13), .ref (h 14), .ref (h 15), .int ca, .long 0, .int (-3), .int 0, .ref (h 20), .ref (h 21), .int 0, .ref (h 23), .ref (h 24), .int 0, .ref (h 26), .ref (h 27), .int 0, .int sx])) := hM.1
              refine m_get (ci := 6) (v := .ref (h 27)) (C := RX6) (T := TX6) (N := 30) hx hb hC hH hts in_X6_begin_X6 hown F_29 rfl 27 (by decide) (hts (.fieldLink RX6 71 "LazyStateModel" "values" "[J") (by decide +kernel)) rfl dX6_begin_74 ?_
              refine lv_iload hx hb dX6_begin_77 (lv_at hl 3 rfl) ?_
              refine lv_lconst (v := 0) hx hb dX6_begin_79 (by decide) ?_
              have hg_30 : f_28 (h 27) = some (.inl (gk G 1, 4, .inr (.inl g7L))) := hM.2.2.1 27 (by decide) rfl
              refine m_last hx hb hC hH hg_30 (vp_in_iff.mpr ⟨by omega, by omega⟩) dX6_begin_80 (fun H locs hH => ?_)
              obtain ⟨f_31, ef_31⟩ : ∃ zz_ : mF, zz_ = va_up f_28 (h 27) (some (.inl (gk G 1, 4, .inr (.inl (vp_updL g7L k4.toNatClampNeg 0))))) := ⟨_, rfl⟩
              rw [← ef_31] at hH
              have hM : MEM G h n (nI hg, fe, ca, 0, (-3), 0, 0, 0, 0, sx) (va_up (va_up I_1 24 gL) 26 (upd g6L k4.toNatClampNeg (-3))) (va_up (va_up J_1 27 g7L) 27 (vp_updL g7L k4.toNatClampNeg 0)) f_31 := hM.setJ 27 (by decide) rfl ef_31
              have hfr := hfr.up 27 (by decide) ef_31
              rw [bx_uu] at hM
              have hy7_ : ∀ o : Nat, (o : Int) < k4.toInt + 1 → (vp_updL g7L k4.toNatClampNeg 0) o = 0 := fun o ho => by have := ic_clN (rfl : k4.toInt = _) (by omega); unfold vp_updL; split; rfl; exact hz7 o (by omega)
              obtain ⟨x_32, ex_32⟩ : ∃ y : Int32, y = k4 + 1 := ⟨_, rfl⟩
              have ix_32 : x_32.toInt = k4.toInt + 1 := ic_add ex_32 rfl kI_1 (by omega) (by omega)
              refine lv_iinc (v := x_32) (lv' := [(4, .int x_32), (0, .ref (h 0)), (1, .int o), (2, .long v)]) hx hb dX6_begin_81 hl (k := 3) rfl (by rw [ex_32]; rfl) (by decide) rfl (fun ls hl => ?_)
              refine lv_goto (tgt := 58) hx hb dX6_begin_84 (by decide) ?_
              exact ih_58 x_32 f_31 (upd g6L k4.toNatClampNeg (-3)) (vp_updL g7L k4.toNatClampNeg 0) (by omega) (by omega) hfr hM (fun o ho => hy6_ o (by omega)) (fun o ho => hy7_ o (by omega)) (by omega) _ _ _ hH (lv_sub hl [1, 2, 3, 0] rfl)
        exact loop_58 (((4 : Int) - 0).toNat + 1) 0 fL (I_1 26) (J_1 27) (by have := kI_0; omega) (by have := kI_0; omega) hfr (by rw [show va_up J_1 27 (J_1 27) = J_1 from va_up_id _ _]; exact hM.idI 26) (fun o ho => by have := kI_0; omega) (fun o ho => by have := kI_0; omega) (by have := kI_0; omega) _ _ _ hH (lv_sub hl [1, 2, 3, 0] rfl)
      · skip
        have ic_14 : (24 : Int) > k4.toInt := ic_nle kI_24 rfl c_14
        refine lv_aload_n hx hb dX6_begin_41 rfl (lv_at hl 0 rfl) ?_
        have F_33 : fL (h 0) = some (.inr (6, [.int (nI n), .ref (h 1), .int (nI hg), .ref (h 3), .ref (h 4), .ref (h 5), .ref (h 6), .int fe, .ref (h 8), .ref (h 9), .ref (h 10), .ref (h 11), .ref (h 12), .ref (h 13), .ref (h 14), .ref (h 15), .int ca, .long 0, .int (-3), .int 0, .ref (h 20), .ref (h 21), .int 0, .ref (h 23), .ref (h 24), .int 0, .ref (h 26), .ref (h 27), .int 0, .int sx])) := hM.1
        refine m_get (ci := 6) (v := .ref (h 24)) (C := RX6) (T := TX6) (N := 30) hx hb hC hH hts in_X6_begin_X6 hown F_33 rfl 24 (by decide) (hts (.fieldLink RX6 65 "LazyStateModel" "isLoaded" "[Z") (by decide +kernel)) rfl dX6_begin_42 ?_
        refine lv_iload hx hb dX6_begin_45 (lv_at hl 3 rfl) ?_
        refine lv_iconst (v := 0) hx hb dX6_begin_47 (by decide) ?_
        have hg_34 : fL (h 24) = some (.inl (gk G 2, 24, .inl gL)) := hM.2.1 24 (by decide) rfl
        refine m_zast hx hb hC hH hg_34 (vp_in_iff.mpr ⟨by omega, by omega⟩) dX6_begin_48 (fun H locs hH => ?_)
        obtain ⟨f_35, ef_35⟩ : ∃ zz_ : mF, zz_ = va_up fL (h 24) (some (.inl (gk G 2, 24, .inl (upd gL k4.toNatClampNeg (vp_nar .boolean 0))))) := ⟨_, rfl⟩
        rw [← ef_35] at hH
        have hM : MEM G h n (nI hg, fe, ca, 0, (-3), 0, 0, 0, 0, sx) (va_up (va_up I_1 24 gL) 24 (upd gL k4.toNatClampNeg (vp_nar .boolean 0))) J_1 f_35 := hM.setI 24 (by decide) rfl ef_35
        have hfr := hfr.up 24 (by decide) ef_35
        rw [bx_uu] at hM
        have hz2_ : ∀ o : Nat, (o : Int) < k4.toInt + 1 → (upd gL k4.toNatClampNeg (vp_nar .boolean 0)) o = 0 := fun o ho => by have := ic_clN (rfl : k4.toInt = _) (by omega); unfold upd; split; exact (by decide); exact hz o (by omega)
        obtain ⟨x_36, ex_36⟩ : ∃ y : Int32, y = k4 + 1 := ⟨_, rfl⟩
        have ix_36 : x_36.toInt = k4.toInt + 1 := ic_add ex_36 rfl kI_1 (by omega) (by omega)
        refine lv_iinc (v := x_36) (lv' := [(4, .int x_36), (0, .ref (h 0)), (1, .int o), (2, .long v)]) hx hb dX6_begin_49 hl (k := 3) rfl (by rw [ex_36]; rfl) (by decide) rfl (fun ls hl => ?_)
        refine lv_goto (tgt := 34) hx hb dX6_begin_52 (by decide) ?_
        exact ih_34 x_36 f_35 (upd gL k4.toNatClampNeg (vp_nar .boolean 0)) (by omega) (by omega) hfr hM (fun o ho => hz2_ o (by omega)) (by omega) _ _ _ hH (lv_sub hl [1, 2, 3, 0] rfl)
  exact loop_34 (((24 : Int) - 0).toNat + 1) 0 f_13 (I_1 24) (by have := kI_0; omega) (by have := kI_0; omega) hfr (hM.idI 24) (fun o ho => by have := kI_0; omega) (by have := kI_0; omega) _ _ _ hH (lv_sub hl [1, 2, 3, 0] rfl)
