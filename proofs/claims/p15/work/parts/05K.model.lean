set_option maxHeartbeats 4000000 in
set_option maxRecDepth 100000 in
theorem c_X6_rises (l : Launch) (G : mG) (h : Nat → Nat) (n : Nat) (T z : Nat → Nat) (A : Nat → tA) (hg : Nat) (ver : Nat → Nat → tB) (cq : Nat → Bool) (fe : Int32) (tms : Nat → Int32) (ca : Int32) (wl : List Nat) (wh : Int32) (ac th : Nat) (sx : Int32) (σ : tS) (f : mF) (hI : FM G h n T z A hg ver cq fe tms ca wl wh ac th sx σ f) (h39 : hg ≤ 39) : Met l yX6_rises wsX6_rises ({ frames := 2, cells := 0, slots := 0, locals := 49 }) (va_Pc [.ref (h 0)] (mW G f)) (va_Qv (fun (u : mS) => frM h f u.2 ∧ FM G h n T z A (hg + 1) (va_up ver (hg + 1) (bdS σ)) (fun _ => false) fe tms ca wl wh ac th sx σ u.2) (fun (u : mS) t => mW G u.2 t) (mA G)) 0 0 (mA G) := by
  refine mMet [.ref (h 0)] (cc := cX6_rises) (maxL := 2) (ret := none) (by decide) rfl (Nat.le_of_ble_eq_true rfl) ?_
  intro p e s m below meth c ls hx hb hr hml hts hown hlk hnm hC hH hl
  have hl : lv_has ls 2 [(0, .ref (h 0))] := hl
  have hI0_ := hI
  have hfr : frM h f f := frM.rf
  obtain ⟨I_1, J_1, hM, hR, hac_1, hth_1⟩ := hI
  have hg_1 := hR.hg40
  have n24_1 := hR.n24
  have tl_1 := len_b hR.ok.2.2.1
  have wl_1 := hR.wl192
  have hgI_1 : (nI hg).toInt = ((hg : Nat) : Int) := nI_toInt (by omega)
  have tmI_1 : (nI ((trS σ).length)).toInt = (((trS σ).length : Nat) : Int) := nI_toInt (by omega)
  have wmI_1 : (nI wl.length).toInt = ((wl.length : Nat) : Int) := nI_toInt (by omega)
  have acI_1 : (nI ac).toInt = ((ac : Nat) : Int) := nI_toInt (by omega)
  have thI_1 : (nI th).toInt = ((th : Nat) : Int) := nI_toInt (by omega)
  have nIn_1 : (nI n).toInt = ((n : Nat) : Int) := nI_toInt (by omega)
  refine lv_aload_n hx hb dX6_rises_0 rfl (lv_at hl 0 rfl) ?_
  refine lv_dup hx hb dX6_rises_1 rfl ?_
  have F_2 : f (h 0) = some (.inr (6, [.int (nI n), .ref (h 1), .int (nI hg), .ref (h 3), .ref (h 4), .ref (h 5), .ref (h 6), .int fe, .ref (h 8), .ref (h 9), .ref (h 10), .ref (h 11), .ref (h 12), .ref (h 13), .ref (h 14), .ref (h 15), .int ca, .long (gfS σ), .int wh, .int (nI ((trS σ).length)), .ref (h 20), .ref (h 21), .int (nI wl.length), .ref (h 23), .ref (h 24), .int (nI ac), .ref (h 26), .ref (h 27), .int (nI th), .int sx])) := hM.1
  refine m_get (ci := 6) (v := .int (nI hg)) (C := RX6) (T := TX6) (N := 30) hx hb hC hH hts in_X6_rises_X6 hown F_2 rfl 2 (by decide) (hts (.fieldLink RX6 104 "LazyStateModel" "height" "I") (by decide +kernel)) rfl dX6_rises_2 ?_
  refine lv_iconst (v := 1) hx hb dX6_rises_5 (by decide) ?_
  refine lv_iadd hx hb dX6_rises_6 ?_
  refine lv_topi (fun x_3 ex_3 => ?_)
  have ix_3 : x_3.toInt = ((hg : Nat) : Int) + 1 := ic_add ex_3 hgI_1 kI_1 (by omega) (by omega)
  refine m_put (ci := 6) (v := .int x_3) (C := RX6) (T := TX6) (N := 30) hx hb hC hH hts in_X6_rises_X6 tyX6 tyX6_ok nmX6 hown F_2 rfl 2 (by decide) (hts (.fieldLink RX6 104 "LazyStateModel" "height" "I") (by decide +kernel)) rfl rfl rfl (Nat.le_of_ble_eq_true rfl) dX6_rises_7 (fun H locs hH => ?_)
  have hH : mH G s (va_up f (h 0) (some (.inr (6, [.int (nI n), .ref (h 1), .int x_3, .ref (h 3), .ref (h 4), .ref (h 5), .ref (h 6), .int fe, .ref (h 8), .ref (h 9), .ref (h 10), .ref (h 11), .ref (h 12), .ref (h 13), .ref (h 14), .ref (h 15), .int ca, .long (gfS σ), .int wh, .int (nI ((trS σ).length)), .ref (h 20), .ref (h 21), .int (nI wl.length), .ref (h 23), .ref (h 24), .int (nI ac), .ref (h 26), .ref (h 27), .int (nI th), .int sx])))) H locs := hH
  obtain ⟨f_4, ef_4⟩ : ∃ zz_ : mF, zz_ = va_up f (h 0) (some (.inr (6, [.int (nI n), .ref (h 1), .int x_3, .ref (h 3), .ref (h 4), .ref (h 5), .ref (h 6), .int fe, .ref (h 8), .ref (h 9), .ref (h 10), .ref (h 11), .ref (h 12), .ref (h 13), .ref (h 14), .ref (h 15), .int ca, .long (gfS σ), .int wh, .int (nI ((trS σ).length)), .ref (h 20), .ref (h 21), .int (nI wl.length), .ref (h 23), .ref (h 24), .int (nI ac), .ref (h 26), .ref (h 27), .int (nI th), .int sx]))) := ⟨_, rfl⟩
  rw [← ef_4] at hH
  have hM : MEM G h n (x_3, fe, ca, (gfS σ), wh, nI ((trS σ).length), nI wl.length, nI ac, nI th, sx) I_1 J_1 f_4 := hM.set0 ef_4
  have hfr := hfr.up 0 (by decide) ef_4
  refine lv_aload_n hx hb dX6_rises_10 rfl (lv_at hl 0 rfl) ?_
  refine lv_bipush (v := 41) hx hb dX6_rises_11 (by decide) ?_
  refine lv_aload_n hx hb dX6_rises_13 rfl (lv_at hl 0 rfl) ?_
  have F_5 : f_4 (h 0) = some (.inr (6, [.int (nI n), .ref (h 1), .int x_3, .ref (h 3), .ref (h 4), .ref (h 5), .ref (h 6), .int fe, .ref (h 8), .ref (h 9), .ref (h 10), .ref (h 11), .ref (h 12), .ref (h 13), .ref (h 14), .ref (h 15), .int ca, .long (gfS σ), .int wh, .int (nI ((trS σ).length)), .ref (h 20), .ref (h 21), .int (nI wl.length), .ref (h 23), .ref (h 24), .int (nI ac), .ref (h 26), .ref (h 27), .int (nI th), .int sx])) := hM.1
  refine m_get (ci := 6) (v := .int x_3) (C := RX6) (T := TX6) (N := 30) hx hb hC hH hts in_X6_rises_X6 hown F_5 rfl 2 (by decide) (hts (.fieldLink RX6 104 "LazyStateModel" "height" "I") (by decide +kernel)) rfl dX6_rises_14 ?_
  refine m_gov hH (va_runV (As := [.int 41, .int x_3]) (rest := []) ⟨hx, hb, hml, hown, hts⟩ (c_X6_copyAll l G h n (x_3, fe, ca, (gfS σ), wh, nI ((trS σ).length), nI wl.length, nI ac, nI th, sx) I_1 J_1 f_4 hM 41 x_3 (by have := kI_41; omega) (by have := kI_41; omega)) (cwV 2 hts gX6_rises_X6_copyAll rfl rfl rfl (by decide +kernel) ⟨Nat.le_of_ble_eq_true rfl, Nat.le_of_ble_eq_true rfl⟩) (m_preV (ci := 6) hC hH F_5 rfl) rfl rfl hl.1 rfl (lv_room (Nat.le_of_ble_eq_true rfl)) dX6_rises_17 ⟨Nat.le_of_ble_eq_true rfl, Nat.le_of_ble_eq_true rfl⟩) (fun rho_8 f_7 H locs hw hH => ?_)
  obtain ⟨hfr1, hM⟩ := hw
  have hfr1 : frM h f_4 f_7 := hfr1
  have hfr := hfr.trans hfr1
  have hM : MEM G h n (x_3, fe, ca, (gfS σ), wh, nI ((trS σ).length), nI wl.length, nI ac, nI th, sx) (va_up (va_up I_1 4 (va_cpy (I_1 4) (I_1 4) (192 * (41 : Int32).toNatClampNeg) (192 * x_3.toNatClampNeg) 192)) 5 (va_cpy (I_1 5) (I_1 5) (1536 * (41 : Int32).toNatClampNeg) (1536 * x_3.toNatClampNeg) (8 * 192))) (va_up J_1 3 (va_cpy (J_1 3) (J_1 3) (192 * (41 : Int32).toNatClampNeg) (192 * x_3.toNatClampNeg) 192)) f_7 := hM
  rw [show (41 : Int32).toNatClampNeg = 41 from rfl] at hM
  rw [show x_3.toNatClampNeg = (hg + 1) from (by have := ic_clN (rfl : x_3.toInt = _) (by omega); omega)] at hM
  refine lv_iconst (v := 0) hx hb dX6_rises_20 (by decide) ?_
  refine lv_istore_n (lv' := [(1, .int 0), (0, .ref (h 0))]) hx hb dX6_rises_21 rfl hl (by decide) rfl (fun ls hl => ?_)
  have loop_22 : ∀ (fuel_ : Nat) (k1 : Int32) (fL : mF) (gL : Nat → Int32) (h0_ : 0 ≤ k1.toInt) (h1_ : k1.toInt ≤ 24) (hfr : frM h f fL) (hM : MEM G h n (x_3, fe, ca, (gfS σ), wh, nI ((trS σ).length), nI wl.length, nI ac, nI th, sx) (va_up (va_up (va_up I_1 4 (va_cpy (I_1 4) (I_1 4) (192 * 41) (192 * (hg + 1)) 192)) 5 (va_cpy (I_1 5) (I_1 5) (1536 * 41) (1536 * (hg + 1)) (8 * 192))) 6 gL) (va_up J_1 3 (va_cpy (J_1 3) (J_1 3) (192 * 41) (192 * (hg + 1)) 192)) fL) (hz : ∀ o : Nat, (o : Int) < k1.toInt → gL o = 0) (_ : ((24 : Int) - k1.toInt).toNat < fuel_) (H : Heap) (locs : List Loc) (ls : Array Slot) (_ : mH G s fL H locs) (_ : lv_has ls 2 [(0, .ref (h 0)), (1, .int k1)]), W p l e ({ frames := 2, cells := 0, slots := 0, locals := 49 } : Room) s m ([.ref (h 0)] : List Value).toArray below meth c H locs (0 + 0) (0 + 0) (MQ below (va_Qv (fun (u : mS) => frM h f u.2 ∧ FM G h n T z A (hg + 1) (va_up ver (hg + 1) (bdS σ)) (fun _ => false) fe tms ca wl wh ac th sx σ u.2) (fun (u : mS) t => mW G u.2 t) (mA G)) ([.ref (h 0)] : List Value).toArray s 0 0 (mA G)) (F0 m 22 ls []) := by
    intro N_22
    induction N_22 with
    | zero => intro k1 fL gL h0_ h1_ hfr hM hz hN; omega
    | succ N_22 ih_22 =>
      intro k1 fL gL h0_ h1_ hfr hM hz hN_22 H locs ls hH hl
      refine lv_iload_n hx hb dX6_rises_22 rfl (lv_at hl 1 rfl) ?_
      refine lv_bipush (v := 24) hx hb dX6_rises_23 (by decide) ?_
      refine lv_icmp_ge (tgt := 41) hx hb dX6_rises_25 (by decide) (fun c_9 => ?_) (fun c_9 => ?_)
      · skip
        have ic_9 : (24 : Int) ≤ k1.toInt := ic_le kI_24 rfl c_9
        exact m_vret hx hb hr hlk hC hH (fun _ => (0, 0)) ⟨hfr, _, _, (by rw [show x_3 = nI (hg + 1) from ic_inj (by omega) (by omega)] at hM; exact hM), hR.rise h39 (fun o ho => hz o (by omega)), hac_1, hth_1⟩ (Nat.le_of_ble_eq_true rfl) (Nat.le_of_ble_eq_true rfl) dX6_rises_41
      · skip
        have ic_9 : (24 : Int) > k1.toInt := ic_nle kI_24 rfl c_9
        refine lv_aload_n hx hb dX6_rises_28 rfl (lv_at hl 0 rfl) ?_
        have F_10 : fL (h 0) = some (.inr (6, [.int (nI n), .ref (h 1), .int x_3, .ref (h 3), .ref (h 4), .ref (h 5), .ref (h 6), .int fe, .ref (h 8), .ref (h 9), .ref (h 10), .ref (h 11), .ref (h 12), .ref (h 13), .ref (h 14), .ref (h 15), .int ca, .long (gfS σ), .int wh, .int (nI ((trS σ).length)), .ref (h 20), .ref (h 21), .int (nI wl.length), .ref (h 23), .ref (h 24), .int (nI ac), .ref (h 26), .ref (h 27), .int (nI th), .int sx])) := hM.1
        refine m_get (ci := 6) (v := .ref (h 6)) (C := RX6) (T := TX6) (N := 30) hx hb hC hH hts in_X6_rises_X6 hown F_10 rfl 6 (by decide) (hts (.fieldLink RX6 24 "LazyStateModel" "isCached" "[Z") (by decide +kernel)) rfl dX6_rises_29 ?_
        refine lv_iload_n hx hb dX6_rises_32 rfl (lv_at hl 1 rfl) ?_
        refine lv_iconst (v := 0) hx hb dX6_rises_33 (by decide) ?_
        have hg_11 : fL (h 6) = some (.inl (gk G 2, 24, .inl gL)) := hM.2.1 6 (by decide) rfl
        refine m_zast hx hb hC hH hg_11 (vp_in_iff.mpr ⟨by omega, by omega⟩) dX6_rises_34 (fun H locs hH => ?_)
        obtain ⟨f_12, ef_12⟩ : ∃ zz_ : mF, zz_ = va_up fL (h 6) (some (.inl (gk G 2, 24, .inl (upd gL k1.toNatClampNeg (vp_nar .boolean 0))))) := ⟨_, rfl⟩
        rw [← ef_12] at hH
        have hM : MEM G h n (x_3, fe, ca, (gfS σ), wh, nI ((trS σ).length), nI wl.length, nI ac, nI th, sx) (va_up (va_up (va_up (va_up I_1 4 (va_cpy (I_1 4) (I_1 4) (192 * 41) (192 * (hg + 1)) 192)) 5 (va_cpy (I_1 5) (I_1 5) (1536 * 41) (1536 * (hg + 1)) (8 * 192))) 6 gL) 6 (upd gL k1.toNatClampNeg (vp_nar .boolean 0))) (va_up J_1 3 (va_cpy (J_1 3) (J_1 3) (192 * 41) (192 * (hg + 1)) 192)) f_12 := hM.setI 6 (by decide) rfl ef_12
        have hfr := hfr.up 6 (by decide) ef_12
        rw [bx_uu] at hM
        have hz2_ : ∀ o : Nat, (o : Int) < k1.toInt + 1 → (upd gL k1.toNatClampNeg (vp_nar .boolean 0)) o = 0 := fun o ho => by have := ic_clN (rfl : k1.toInt = _) (by omega); unfold upd; split; exact (by decide); exact hz o (by omega)
        obtain ⟨x_13, ex_13⟩ : ∃ y : Int32, y = k1 + 1 := ⟨_, rfl⟩
        have ix_13 : x_13.toInt = k1.toInt + 1 := ic_add ex_13 rfl kI_1 (by omega) (by omega)
        refine lv_iinc (v := x_13) (lv' := [(1, .int x_13), (0, .ref (h 0))]) hx hb dX6_rises_35 hl (k := 1) rfl (by rw [ex_13]; rfl) (by decide) rfl (fun ls hl => ?_)
        refine lv_goto (tgt := 22) hx hb dX6_rises_38 (by decide) ?_
        exact ih_22 x_13 f_12 (upd gL k1.toNatClampNeg (vp_nar .boolean 0)) (by omega) (by omega) hfr hM (fun o ho => hz2_ o (by omega)) (by omega) _ _ _ hH (lv_sub hl [1, 0] rfl)
  exact loop_22 (((24 : Int) - 0).toNat + 1) 0 f_7 (I_1 6) (by have := kI_0; omega) (by have := kI_0; omega) hfr (hM.idI 6) (fun o ho => by have := kI_0; omega) (by have := kI_0; omega) _ _ _ hH (lv_sub hl [1, 0] rfl)
set_option maxHeartbeats 4000000 in
set_option maxRecDepth 100000 in
theorem c_X6_changed (l : Launch) (G : mG) (h : Nat → Nat) (n : Nat) (T z : Nat → Nat) (A : Nat → tA) (hg : Nat) (ver : Nat → Nat → tB) (cq : Nat → Bool) (fe : Int32) (tms : Nat → Int32) (ca : Int32) (wl : List Nat) (wh : Int32) (ac th : Nat) (sx : Int32) (σ : tS) (f : mF) (hI : FM G h n T z A hg ver cq fe tms ca wl wh ac th sx σ f) (jl : Int32) (L : Nat) (hL : L < 192) (hjl : jl.toInt = (L : Int)) : Met l yX6_changed wsX6_changed ({ frames := 3, cells := 0, slots := 0, locals := 70 }) (va_Pc [.ref (h 0), .int jl] (mW G f)) (va_Qi (fun (r : Int32) (u : mS) => ((dif n T (ver hg) (bdS σ) L) = false ∧ u.2 = f ∧ r.toInt = hg) ∨ ((dif n T (ver hg) (bdS σ) L) = true ∧ hg = 40 ∧ u.2 = f ∧ r.toInt = -2) ∨ ((dif n T (ver hg) (bdS σ) L) = true ∧ hg ≤ 39 ∧ r.toInt = hg + 1 ∧ frM h f u.2 ∧ FM G h n T z A (hg + 1) (va_up ver (hg + 1) (bdS σ)) (fun _ => false) fe tms ca wl wh ac th sx σ u.2)) (fun (u : mS) t => mW G u.2 t) (mA G)) 0 0 (mA G) := by
  refine mMet [.ref (h 0), .int jl] (cc := cX6_changed) (maxL := 2) (ret := (some .int)) (by decide) rfl (Nat.le_of_ble_eq_true rfl) ?_
  intro p e s m below meth c ls hx hb hr hml hts hown hlk hnm hC hH hl
  have hl : lv_has ls 2 [(0, .ref (h 0)), (1, .int jl)] := hl
  have hI0_ := hI
  have hfr : frM h f f := frM.rf
  obtain ⟨I_1, J_1, hM, hR, hac_1, hth_1⟩ := hI
  have hg_1 := hR.hg40
  have n24_1 := hR.n24
  have tl_1 := len_b hR.ok.2.2.1
  have wl_1 := hR.wl192
  have hgI_1 : (nI hg).toInt = ((hg : Nat) : Int) := nI_toInt (by omega)
  have tmI_1 : (nI ((trS σ).length)).toInt = (((trS σ).length : Nat) : Int) := nI_toInt (by omega)
  have wmI_1 : (nI wl.length).toInt = ((wl.length : Nat) : Int) := nI_toInt (by omega)
  have acI_1 : (nI ac).toInt = ((ac : Nat) : Int) := nI_toInt (by omega)
  have thI_1 : (nI th).toInt = ((th : Nat) : Int) := nI_toInt (by omega)
  have nIn_1 : (nI n).toInt = ((n : Nat) : Int) := nI_toInt (by omega)
  refine lv_aload_n hx hb dX6_changed_0 rfl (lv_at hl 0 rfl) ?_
  refine lv_sipush (v := 7872) hx hb dX6_changed_1 (by decide) ?_
  refine lv_iload_n hx hb dX6_changed_4 rfl (lv_at hl 1 rfl) ?_
  refine lv_iadd hx hb dX6_changed_5 ?_
  refine lv_topi (fun x_2 ex_2 => ?_)
  have ix_2 : x_2.toInt = 7872 + jl.toInt := ic_add ex_2 kI_7872 rfl (by omega) (by omega)
  refine lv_sipush (v := 192) hx hb dX6_changed_6 (by decide) ?_
  refine lv_aload_n hx hb dX6_changed_9 rfl (lv_at hl 0 rfl) ?_
  have F_3 : f (h 0) = some (.inr (6, [.int (nI n), .ref (h 1), .int (nI hg), .ref (h 3), .ref (h 4), .ref (h 5), .ref (h 6), .int fe, .ref (h 8), .ref (h 9), .ref (h 10), .ref (h 11), .ref (h 12), .ref (h 13), .ref (h 14), .ref (h 15), .int ca, .long (gfS σ), .int wh, .int (nI ((trS σ).length)), .ref (h 20), .ref (h 21), .int (nI wl.length), .ref (h 23), .ref (h 24), .int (nI ac), .ref (h 26), .ref (h 27), .int (nI th), .int sx])) := hM.1
  refine m_get (ci := 6) (v := .int (nI hg)) (C := RX6) (T := TX6) (N := 30) hx hb hC hH hts in_X6_changed_X6 hown F_3 rfl 2 (by decide) (hts (.fieldLink RX6 104 "LazyStateModel" "height" "I") (by decide +kernel)) rfl dX6_changed_10 ?_
  refine lv_imul hx hb dX6_changed_13 ?_
  refine lv_topi (fun x_4 ex_4 => ?_)
  have ix_4 : x_4.toInt = 192 * ((hg : Nat) : Int) := ic_mul ex_4 kI_192 hgI_1 (by omega) (by omega)
  refine lv_iload_n hx hb dX6_changed_14 rfl (lv_at hl 1 rfl) ?_
  refine lv_iadd hx hb dX6_changed_15 ?_
  refine lv_topi (fun x_5 ex_5 => ?_)
  have ix_5 : x_5.toInt = x_4.toInt + jl.toInt := ic_add ex_5 rfl rfl (by omega) (by omega)
  refine m_goi hH (va_runV (As := [.int x_2, .int x_5]) (rest := []) ⟨hx, hb, hml, hown, hts⟩ (c_X6_areAlike l G h n (nI hg, fe, ca, (gfS σ), wh, nI ((trS σ).length), nI wl.length, nI ac, nI th, sx) I_1 J_1 f hM x_2 x_5 (by omega) (by omega) (by rw [show x_2.toNatClampNeg = 192 * 41 + L from by have := ic_clN (rfl : x_2.toInt = _) (by omega); omega]; exact hR.sz8 hL)) (cwV 2 hts gX6_changed_X6_areAlike rfl rfl rfl (by decide +kernel) ⟨Nat.le_of_ble_eq_true rfl, Nat.le_of_ble_eq_true rfl⟩) (m_preV (ci := 6) hC hH F_3 rfl) rfl rfl hl.1 rfl (lv_room (Nat.le_of_ble_eq_true rfl)) dX6_changed_16 ⟨Nat.le_of_ble_eq_true rfl, Nat.le_of_ble_eq_true rfl⟩) (fun r_6 rho_8 f_7 H locs hw hH => ?_)
  obtain ⟨hu, hr_6⟩ := hw
  have hu : f_7 = f := hu
  rw [hu] at hH
  try dsimp only at hr_6
  rw [show x_2.toNatClampNeg = 192 * 41 + L from by have := ic_clN (rfl : x_2.toInt = _) (by omega); omega, show x_5.toNatClampNeg = 192 * hg + L from by have := ic_clN (rfl : x_5.toInt = _) (by omega); omega, hR.alk hL] at hr_6
  refine lv_if_eq (tgt := 27) hx hb dX6_changed_19 (by decide) (fun c_9 => ?_) (fun c_9 => ?_)
  · skip
    have ic_9 : (r_6.toInt : Int) = 0 := ic_eq rfl kI_0 c_9
    have df_ : (dif n T (ver hg) (bdS σ) L) = true := by have q_ := (hr_6.resolve_left (fun z_ => by omega)).2; cases hd_ : (dif n T (ver hg) (bdS σ) L) with | true => rfl | false => exact absurd hd_ q_
    refine lv_aload_n hx hb dX6_changed_27 rfl (lv_at hl 0 rfl) ?_
    refine m_get (ci := 6) (v := .int (nI hg)) (C := RX6) (T := TX6) (N := 30) hx hb hC hH hts in_X6_changed_X6 hown F_3 rfl 2 (by decide) (hts (.fieldLink RX6 104 "LazyStateModel" "height" "I") (by decide +kernel)) rfl dX6_changed_28 ?_
    refine lv_bipush (v := 40) hx hb dX6_changed_31 (by decide) ?_
    refine lv_icmp_ne (tgt := 39) hx hb dX6_changed_33 (by decide) (fun c_10 => ?_) (fun c_10 => ?_)
    · skip
      have ic_10 : (((hg : Nat) : Int) : Int) ≠ 40 := ic_ne hgI_1 kI_40 c_10
      refine lv_aload_n hx hb dX6_changed_39 rfl (lv_at hl 0 rfl) ?_
      have hI : FM G h n T z A hg ver cq fe tms ca wl wh ac th sx σ f := ⟨_, _, hM, hR, hac_1, hth_1⟩
      refine m_gov hH (va_runV (As := []) (rest := []) ⟨hx, hb, hml, hown, hts⟩ (c_X6_rises l G h n T z A hg ver cq fe tms ca wl wh ac th sx σ f hI (by omega)) (cwV 0 hts gX6_changed_X6_rises rfl rfl rfl (by decide +kernel) ⟨Nat.le_of_ble_eq_true rfl, Nat.le_of_ble_eq_true rfl⟩) (m_preV (ci := 6) hC hH F_3 rfl) rfl rfl hl.1 rfl (lv_room (Nat.le_of_ble_eq_true rfl)) dX6_changed_40 ⟨Nat.le_of_ble_eq_true rfl, Nat.le_of_ble_eq_true rfl⟩) (fun rho_13 f_12 H locs hw hH => ?_)
      obtain ⟨hfr1, hI⟩ := hw
      have hfr1 : frM h f f_12 := hfr1
      have hfr := hfr.trans hfr1
      have hI : FM G h n T z A (hg + 1) (va_up ver (hg + 1) (bdS σ)) (fun _ => false) fe tms ca wl wh ac th sx σ f_12 := hI
      obtain ⟨I_14, J_14, hM, hR, hac_14, hth_14⟩ := hI
      have hg_14 := hR.hg40
      have n24_14 := hR.n24
      have tl_14 := len_b hR.ok.2.2.1
      have wl_14 := hR.wl192
      have hgI_14 : (nI (hg + 1)).toInt = (((hg + 1) : Nat) : Int) := nI_toInt (by omega)
      have tmI_14 : (nI ((trS σ).length)).toInt = (((trS σ).length : Nat) : Int) := nI_toInt (by omega)
      have wmI_14 : (nI wl.length).toInt = ((wl.length : Nat) : Int) := nI_toInt (by omega)
      have acI_14 : (nI ac).toInt = ((ac : Nat) : Int) := nI_toInt (by omega)
      have thI_14 : (nI th).toInt = ((th : Nat) : Int) := nI_toInt (by omega)
      have nIn_14 : (nI n).toInt = ((n : Nat) : Int) := nI_toInt (by omega)
      refine lv_aload_n hx hb dX6_changed_43 rfl (lv_at hl 0 rfl) ?_
      have F_15 : f_12 (h 0) = some (.inr (6, [.int (nI n), .ref (h 1), .int (nI (hg + 1)), .ref (h 3), .ref (h 4), .ref (h 5), .ref (h 6), .int fe, .ref (h 8), .ref (h 9), .ref (h 10), .ref (h 11), .ref (h 12), .ref (h 13), .ref (h 14), .ref (h 15), .int ca, .long (gfS σ), .int wh, .int (nI ((trS σ).length)), .ref (h 20), .ref (h 21), .int (nI wl.length), .ref (h 23), .ref (h 24), .int (nI ac), .ref (h 26), .ref (h 27), .int (nI th), .int sx])) := hM.1
      refine m_get (ci := 6) (v := .int (nI (hg + 1))) (C := RX6) (T := TX6) (N := 30) hx hb hC hH hts in_X6_changed_X6 hown F_15 rfl 2 (by decide) (hts (.fieldLink RX6 104 "LazyStateModel" "height" "I") (by decide +kernel)) rfl dX6_changed_44 ?_
      exact m_iret (v := nI (hg + 1)) hx hb hr hlk hC hH (fun _ => (0, 0)) (Or.inr (Or.inr ⟨df_, by omega, by have := hgI_14; omega, hfr, ⟨_, _, hM, hR, hac_14, hth_14⟩⟩)) (Nat.le_of_ble_eq_true rfl) (Nat.le_of_ble_eq_true rfl) dX6_changed_47
    · skip
      have ic_10 : (((hg : Nat) : Int) : Int) = 40 := ic_eq hgI_1 kI_40 c_10
      refine lv_bipush (v := (-2)) hx hb dX6_changed_36 (by decide) ?_
      exact m_iret (v := (-2)) hx hb hr hlk hC hH (fun _ => (0, 0)) (Or.inr (Or.inl ⟨df_, by omega, rfl, kI_m2⟩)) (Nat.le_of_ble_eq_true rfl) (Nat.le_of_ble_eq_true rfl) dX6_changed_38
  · skip
    have ic_9 : (r_6.toInt : Int) ≠ 0 := ic_ne rfl kI_0 c_9
    have df_ : (dif n T (ver hg) (bdS σ) L) = false := (hr_6.resolve_right (fun z_ => by omega)).2
    refine lv_aload_n hx hb dX6_changed_22 rfl (lv_at hl 0 rfl) ?_
    refine m_get (ci := 6) (v := .int (nI hg)) (C := RX6) (T := TX6) (N := 30) hx hb hC hH hts in_X6_changed_X6 hown F_3 rfl 2 (by decide) (hts (.fieldLink RX6 104 "LazyStateModel" "height" "I") (by decide +kernel)) rfl dX6_changed_23 ?_
    exact m_iret (v := nI hg) hx hb hr hlk hC hH (fun _ => (0, 0)) (Or.inl ⟨df_, rfl, by have := hgI_1; omega⟩) (Nat.le_of_ble_eq_true rfl) (Nat.le_of_ble_eq_true rfl) dX6_changed_26
