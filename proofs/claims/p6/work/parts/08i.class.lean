set_option maxHeartbeats 4000000 in
set_option maxRecDepth 100000 in
theorem c_X3_loadAhead (l : Launch) (G : mG) (k : Nat → Nat) (rho : tR) (n : Nat) (T z : Nat → Nat) (st : Nat → Bool) (f : mF) (hI : IC G k rho n T z st f) (i : Nat) (hi : i < 3) (hst : st i = true ∧ 0 < n) (m_ : Int32) (hm : m_.toInt ≤ n) : Met l yX3_loadAhead wsX3_loadAhead ({ frames := 3, cells := 72, slots := 696, locals := 102 }) (va_Pc [.ref (k (5 + 8 * i)), .int m_] (mW G f)) (va_Qv (fun (u : mS) => IC G k u.1 n T z st u.2 ∧ frC k rho f u.1 u.2) (fun (u : mS) t => mW G u.2 t) (mA G)) 72 696 (mA G) := by
  refine mMet [.ref (k (5 + 8 * i)), .int m_] (cc := cX3_loadAhead) (maxL := 3) (ret := none) (by decide) rfl (Nat.le_of_ble_eq_true rfl) ?_
  intro p e s m below meth c ls hx hb hr hml hts hown hlk hnm hC hH hl
  have hl : lv_has ls 3 [(0, .ref (k (5 + 8 * i))), (1, .int m_)] := hl
  have hj := hI.2.2.2.2.1
  have hn24 := hI.2.2.2.2.2.2.1
  have hT3 := hI.2.2.2.2.2.2.2.1
  have hz32 := hI.2.2.2.2.2.2.2.2
  have nIn : (nI n).toInt = (n : Int) := nI_toInt (by omega)
  have hfr : frC k rho f rho f := frC.rf
  have hn0_ := hst.2
  refine lv_iconst (v := 0) hx hb dX3_loadAhead_0 (by decide) ?_
  refine lv_istore_n (lv' := [(2, .int 0), (0, .ref (k (5 + 8 * i))), (1, .int m_)]) hx hb dX3_loadAhead_1 rfl hl (by decide) rfl (fun ls hl => ?_)
  have loop_2 : ∀ (fuel_ : Nat) (k2 : Int32) (fL : mF) (rhoL : tR) (cl_ sl_ : Nat) (h0_ : 0 ≤ k2.toInt) (h1_ : k2.toInt ≤ 24) (hI : IC G k rhoL n T z st fL) (hfr : frC k rho f rhoL fL) (hcl : cl_ + 3 * nul (cpF k i fL) 24 ≤ 72) (hsl : sl_ + 29 * nul (cpF k i fL) 24 ≤ 696) (_ : ((24 : Int) - k2.toInt).toNat < fuel_) (H : Heap) (locs : List Loc) (ls : Array Slot) (_ : mH G s fL H locs) (_ : lv_has ls 3 [(0, .ref (k (5 + 8 * i))), (1, .int m_), (2, .int k2)]), W p l e ({ frames := 3, cells := 72, slots := 696, locals := 102 } : Room) s m ([.ref (k (5 + 8 * i)), .int m_] : List Value).toArray below meth c H locs cl_ sl_ (MQ below (va_Qv (fun (u : mS) => IC G k u.1 n T z st u.2 ∧ frC k rho f u.1 u.2) (fun (u : mS) t => mW G u.2 t) (mA G)) ([.ref (k (5 + 8 * i)), .int m_] : List Value).toArray s 72 696 (mA G)) (F0 m 2 ls []) := by
    intro N_2
    induction N_2 with
    | zero => intro k2 fL rhoL cl_ sl_ h0_ h1_ hI hfr hcl hsl hN; omega
    | succ N_2 ih_2 =>
      intro k2 fL rhoL cl_ sl_ h0_ h1_ hI hfr hcl hsl hN_2 H locs ls hH hl
      refine lv_iload_n hx hb dX3_loadAhead_2 rfl (lv_at hl 2 rfl) ?_
      refine lv_iload_n hx hb dX3_loadAhead_3 rfl (lv_at hl 1 rfl) ?_
      refine lv_icmp_ge (tgt := 18) hx hb dX3_loadAhead_4 (by decide) (fun c_1 => ?_) (fun c_1 => ?_)
      · skip
        have ic_1 : (m_.toInt : Int) ≤ k2.toInt := ic_le rfl rfl c_1
        exact m_vret hx hb hr hlk hC hH rhoL ⟨hI, hfr⟩ (by omega) (by omega) dX3_loadAhead_18
      · skip
        have ic_1 : (m_.toInt : Int) > k2.toInt := ic_nle rfl rfl c_1
        refine lv_aload_n hx hb dX3_loadAhead_7 rfl (lv_at hl 0 rfl) ?_
        refine lv_iload_n hx hb dX3_loadAhead_8 rfl (lv_at hl 2 rfl) ?_
        obtain ⟨lb_5, dn_5, gf_5, th_5, ta_5, sr_5, nx_5, F_5, s1_5, s2_5⟩ : okRun k st i (fL (k (5 + 8 * i))) := hI.run (i := i) (c := 0) hi (by decide)
        have s3_5 := s2_5 hst.1
        subst s3_5
        refine m_gov hH (va_runV (As := [.int k2]) (rest := []) ⟨hx, hb, hml, hown, hts⟩ (c_X3_load l G k rhoL n T z st fL hI i hi hst k2 (by omega)) (cwV 1 hts gX3_loadAhead_X3_load rfl rfl rfl (by decide +kernel) ⟨Nat.le_of_ble_eq_true rfl, Nat.le_of_ble_eq_true rfl⟩) (m_preV (ci := 3) hC hH F_5 rfl) rfl rfl hl.1 rfl (lv_room (Nat.le_of_ble_eq_true rfl)) dX3_loadAhead_9 ⟨by show _ ≤ 72; have := nd_le (k := k) (i := i) (f := fL) (o := k2.toNatClampNeg); have := nd_nul (k := k) (i := i) (f := fL) (o := k2.toNatClampNeg) (ic_cl rfl (by omega) (by omega)); omega, by show _ ≤ 696; have := nd_le (k := k) (i := i) (f := fL) (o := k2.toNatClampNeg); have := nd_nul (k := k) (i := i) (f := fL) (o := k2.toNatClampNeg) (ic_cl rfl (by omega) (by omega)); omega⟩) (fun rho_4 f_3 H locs hw hH => ?_)
        obtain ⟨hI, hfr1, hld_⟩ := hw
        have hI : IC G k rho_4 n T z st f_3 := hI
        have hfr1 : frC k rhoL fL rho_4 f_3 := hfr1
        have hfr := hfr.trans hfr1
        have hld_ : ldP k i k2.toNatClampNeg fL f_3 := hld_
        obtain ⟨x_6, ex_6⟩ : ∃ y : Int32, y = k2 + 1 := ⟨_, rfl⟩
        have ix_6 : x_6.toInt = k2.toInt + 1 := ic_add ex_6 rfl kI_1 (by omega) (by omega)
        refine lv_iinc (v := x_6) (lv' := [(2, .int x_6), (0, .ref (k (5 + 8 * i))), (1, .int m_)]) hx hb dX3_loadAhead_12 hl (k := 2) rfl (by rw [ex_6]; rfl) (by decide) rfl (fun ls hl => ?_)
        refine lv_goto (tgt := 2) hx hb dX3_loadAhead_15 (by decide) ?_
        exact ih_2 x_6 f_3 rho_4 (cl_ + (3 * nd k i fL k2.toNatClampNeg)) (sl_ + (29 * nd k i fL k2.toNatClampNeg)) (by omega) (by omega) hI hfr (by have := hld_.2.1; omega) (by have := hld_.2.1; omega) (by omega) _ _ _ hH (lv_sub hl [1, 2, 0] rfl)
  exact loop_2 (((24 : Int) - 0).toNat + 1) 0 f rho 0 0 (by have := kI_0; omega) (by have := kI_0; omega) hI hfr (by have := nul_le (cpF k i f) 24; omega) (by have := nul_le (cpF k i f) 24; omega) (by have := kI_0; omega) _ _ _ hH (lv_sub hl [1, 2, 0] rfl)
set_option maxHeartbeats 4000000 in
set_option maxRecDepth 100000 in
theorem c_X3_start (l : Launch) (G : mG) (k : Nat → Nat) (rho : tR) (n : Nat) (T z : Nat → Nat) (st : Nat → Bool) (f : mF) (hI : IC G k rho n T z st f) (i : Nat) (hi : i < 3) (o : Int32) (v : Int64) (ho : 0 ≤ o.toInt ∧ o.toInt < n) : Met l yX3_start wsX3_start ({ frames := 2, cells := 0, slots := 0, locals := 43 }) (va_Pc [.ref (k (5 + 8 * i)), .ref (k 1), .int o, .long v] (mW G f)) (va_Qv (fun (u : mS) => u.1 = rho ∧ IC G k rho n T z (stUp st i) u.2 ∧ frC k rho f rho u.2) (fun (u : mS) t => mW G u.2 t) (mA G)) 0 0 (mA G) := by
  refine mMet [.ref (k (5 + 8 * i)), .ref (k 1), .int o, .long v] (cc := cX3_start) (maxL := 5) (ret := none) (by decide) rfl (Nat.le_of_ble_eq_true rfl) ?_
  intro p e s m below meth c ls hx hb hr hml hts hown hlk hnm hC hH hl
  have hl : lv_has ls 5 [(0, .ref (k (5 + 8 * i))), (1, .ref (k 1)), (2, .int o), (3, .long v)] := hl
  have hj := hI.2.2.2.2.1
  have hn24 := hI.2.2.2.2.2.2.1
  have hT3 := hI.2.2.2.2.2.2.2.1
  have hz32 := hI.2.2.2.2.2.2.2.2
  have nIn : (nI n).toInt = (n : Int) := nI_toInt (by omega)
  have hfr : frC k rho f rho f := frC.rf
  refine lv_aload_n hx hb dX3_start_0 rfl (lv_at hl 0 rfl) ?_
  refine lv_aload_n hx hb dX3_start_1 rfl (lv_at hl 1 rfl) ?_
  obtain ⟨lb_1, dn_1, gf_1, th_1, ta_1, sr_1, nx_1, F_1, s1_1, s2_1⟩ : okRun k st i (f (k (5 + 8 * i))) := hI.run (i := i) (c := 0) hi (by decide)
  refine m_put (ci := 3) (v := .ref (k 1)) (C := RX3) (T := TX3) (N := 11) hx hb hC hH hts in_X3_start_X3 tyX3 tyX3_ok nmX3 hown F_1 rfl 6 (by decide) (hts (.fieldLink RX3 36 "LazyState$Run" "state" "[LLazyState$Body;") (by decide +kernel)) rfl rfl rfl (Nat.le_of_ble_eq_true rfl) dX3_start_2 (fun H locs hH => ?_)
  have hH : mH G s (va_up f (k (5 + 8 * i)) (some (.inr (3, [.ref (k (5 + 8 * i + 1)), .int lb_1, .int dn_1, .long gf_1, .int th_1, .int ta_1, .ref (k 1), .ref (k (5 + 8 * i + 5)), .ref (k (5 + 8 * i + 6)), .ref (k (5 + 8 * i + 7)), .int nx_1])))) H locs := hH
  obtain ⟨f_2, ef_2⟩ : ∃ zz_ : mF, zz_ = va_up f (k (5 + 8 * i)) (some (.inr (3, [.ref (k (5 + 8 * i + 1)), .int lb_1, .int dn_1, .long gf_1, .int th_1, .int ta_1, .ref (k 1), .ref (k (5 + 8 * i + 5)), .ref (k (5 + 8 * i + 6)), .ref (k (5 + 8 * i + 7)), .int nx_1]))) := ⟨_, rfl⟩
  rw [← ef_2] at hH
  have F_3 : f_2 (k (5 + 8 * i)) = some (.inr (3, [.ref (k (5 + 8 * i + 1)), .int lb_1, .int dn_1, .long gf_1, .int th_1, .int ta_1, .ref (k 1), .ref (k (5 + 8 * i + 5)), .ref (k (5 + 8 * i + 6)), .ref (k (5 + 8 * i + 7)), .int nx_1])) := by rw [ef_2]; exact va_up_self _ _ _
  have hI : IC G k rho n T z (stUp st i) f_2 := hI.setRunX hi (fun q_ hq_ => if_neg hq_) ef_2 ⟨_, _, _, _, _, some (k 1), _, rfl, Or.inr rfl, fun _ => rfl⟩ (xLd_keep hI hi F_1 ef_2 rfl)
  have hsT_ : stUp st i i = true ∧ 0 < n := ⟨if_pos rfl, by omega⟩
  have hfr := hfr.upK (j := (5 + 8 * i + 0)) (by omega) ef_2
  refine lv_aload_n hx hb dX3_start_5 rfl (lv_at hl 0 rfl) ?_
  refine m_get (ci := 3) (v := .ref (k (5 + 8 * i + 1))) (C := RX3) (T := TX3) (N := 11) hx hb hC hH hts in_X3_start_X3 hown F_3 rfl 0 (by decide) (hts (.fieldLink RX3 12 "LazyState$Run" "trace" "LLazyState$Trace;") (by decide +kernel)) rfl dX3_start_6 ?_
  obtain ⟨ct_7, cg_7, F_7, b1_7, b2_7⟩ : okTr k i (f_2 (k (5 + 8 * i + 1))) := hI.run (i := i) (c := 1) hi (by decide)
  refine m_gov hH (va_runV (As := []) (rest := []) ⟨hx, hb, hml, hown, hts⟩ (c_X4_restart l G k rho n T z (stUp st i) f_2 hI i hi) (cwV 0 hts gX3_start_X4_restart rfl rfl rfl (by decide +kernel) ⟨Nat.le_of_ble_eq_true rfl, Nat.le_of_ble_eq_true rfl⟩) (m_preV (ci := 4) hC hH F_7 rfl) rfl rfl hl.1 rfl (lv_room (Nat.le_of_ble_eq_true rfl)) dX3_start_9 ⟨Nat.le_of_ble_eq_true rfl, Nat.le_of_ble_eq_true rfl⟩) (fun rho_6 f_5 H locs hw hH => ?_)
  obtain ⟨hu, hI, hfr1, hkt⟩ := hw
  have hI : IC G k rho n T z (stUp st i) f_5 := hI
  have hfr1 : frC k rho f_2 rho f_5 := hfr1
  have hfr := hfr.trans hfr1
  refine lv_aload_n hx hb dX3_start_12 rfl (lv_at hl 0 rfl) ?_
  refine lv_iconst (v := 0) hx hb dX3_start_13 (by decide) ?_
  obtain ⟨lb_8, dn_8, gf_8, th_8, ta_8, sr_8, nx_8, F_8, s1_8, s2_8⟩ : okRun k (stUp st i) i (f_5 (k (5 + 8 * i))) := hI.run (i := i) (c := 0) hi (by decide)
  have s3_8 := s2_8 hsT_.1
  subst s3_8
  refine m_put (ci := 3) (v := .int 0) (C := RX3) (T := TX3) (N := 11) hx hb hC hH hts in_X3_start_X3 tyX3 tyX3_ok nmX3 hown F_8 rfl 1 (by decide) (hts (.fieldLink RX3 42 "LazyState$Run" "loadedBits" "I") (by decide +kernel)) rfl rfl rfl (Nat.le_of_ble_eq_true rfl) dX3_start_14 (fun H locs hH => ?_)
  have hH : mH G s (va_up f_5 (k (5 + 8 * i)) (some (.inr (3, [.ref (k (5 + 8 * i + 1)), .int 0, .int dn_8, .long gf_8, .int th_8, .int ta_8, .ref (k 1), .ref (k (5 + 8 * i + 5)), .ref (k (5 + 8 * i + 6)), .ref (k (5 + 8 * i + 7)), .int nx_8])))) H locs := hH
  obtain ⟨f_9, ef_9⟩ : ∃ zz_ : mF, zz_ = va_up f_5 (k (5 + 8 * i)) (some (.inr (3, [.ref (k (5 + 8 * i + 1)), .int 0, .int dn_8, .long gf_8, .int th_8, .int ta_8, .ref (k 1), .ref (k (5 + 8 * i + 5)), .ref (k (5 + 8 * i + 6)), .ref (k (5 + 8 * i + 7)), .int nx_8]))) := ⟨_, rfl⟩
  rw [← ef_9] at hH
  have F_10 : f_9 (k (5 + 8 * i)) = some (.inr (3, [.ref (k (5 + 8 * i + 1)), .int 0, .int dn_8, .long gf_8, .int th_8, .int ta_8, .ref (k 1), .ref (k (5 + 8 * i + 5)), .ref (k (5 + 8 * i + 6)), .ref (k (5 + 8 * i + 7)), .int nx_8])) := by rw [ef_9]; exact va_up_self _ _ _
  obtain ⟨g5_, hg5_, hp5_⟩ : okQ G 3 24 (pCp rho n T) (f_5 (k (5 + 8 * i + 5))) := hI.run (c := 5) hi (by decide)
  have H5_ := upk hg5_ ef_9 (neC hj (by omega) (by omega) (by omega))
  have hI : IC G k rho n T z (stUp st i) f_9 := hI.setRunX hi (fun _ _ => rfl) ef_9 ⟨_, _, _, _, _, some (k 1), _, rfl, Or.inr rfl, fun _ => rfl⟩ (xLd_mk F_10 rfl H5_ (fun o_ ho_ hb_ => absurd hb_ (btC_0 o_ ho_)))
  have hfr := hfr.upK (j := (5 + 8 * i + 0)) (by omega) ef_9
  refine lv_aload_n hx hb dX3_start_17 rfl (lv_at hl 0 rfl) ?_
  refine lv_iconst (v := 0) hx hb dX3_start_18 (by decide) ?_
  refine m_put (ci := 3) (v := .int 0) (C := RX3) (T := TX3) (N := 11) hx hb hC hH hts in_X3_start_X3 tyX3 tyX3_ok nmX3 hown F_10 rfl 2 (by decide) (hts (.fieldLink RX3 45 "LazyState$Run" "done" "I") (by decide +kernel)) rfl rfl rfl (Nat.le_of_ble_eq_true rfl) dX3_start_19 (fun H locs hH => ?_)
  have hH : mH G s (va_up f_9 (k (5 + 8 * i)) (some (.inr (3, [.ref (k (5 + 8 * i + 1)), .int 0, .int 0, .long gf_8, .int th_8, .int ta_8, .ref (k 1), .ref (k (5 + 8 * i + 5)), .ref (k (5 + 8 * i + 6)), .ref (k (5 + 8 * i + 7)), .int nx_8])))) H locs := hH
  obtain ⟨f_11, ef_11⟩ : ∃ zz_ : mF, zz_ = va_up f_9 (k (5 + 8 * i)) (some (.inr (3, [.ref (k (5 + 8 * i + 1)), .int 0, .int 0, .long gf_8, .int th_8, .int ta_8, .ref (k 1), .ref (k (5 + 8 * i + 5)), .ref (k (5 + 8 * i + 6)), .ref (k (5 + 8 * i + 7)), .int nx_8]))) := ⟨_, rfl⟩
  rw [← ef_11] at hH
  have F_12 : f_11 (k (5 + 8 * i)) = some (.inr (3, [.ref (k (5 + 8 * i + 1)), .int 0, .int 0, .long gf_8, .int th_8, .int ta_8, .ref (k 1), .ref (k (5 + 8 * i + 5)), .ref (k (5 + 8 * i + 6)), .ref (k (5 + 8 * i + 7)), .int nx_8])) := by rw [ef_11]; exact va_up_self _ _ _
  have hI : IC G k rho n T z (stUp st i) f_11 := hI.setRun hi F_10 ef_11 rfl ⟨_, _, _, _, _, some (k 1), _, rfl, Or.inr rfl, fun _ => rfl⟩
  have hfr := hfr.upK (j := (5 + 8 * i + 0)) (by omega) ef_11
  refine lv_aload_n hx hb dX3_start_22 rfl (lv_at hl 0 rfl) ?_
  refine lv_lconst (v := 0) hx hb dX3_start_23 (by decide) ?_
  refine m_put (ci := 3) (v := .long 0) (C := RX3) (T := TX3) (N := 11) hx hb hC hH hts in_X3_start_X3 tyX3 tyX3_ok nmX3 hown F_12 rfl 3 (by decide) (hts (.fieldLink RX3 48 "LazyState$Run" "gift" "J") (by decide +kernel)) rfl rfl rfl (Nat.le_of_ble_eq_true rfl) dX3_start_24 (fun H locs hH => ?_)
  have hH : mH G s (va_up f_11 (k (5 + 8 * i)) (some (.inr (3, [.ref (k (5 + 8 * i + 1)), .int 0, .int 0, .long 0, .int th_8, .int ta_8, .ref (k 1), .ref (k (5 + 8 * i + 5)), .ref (k (5 + 8 * i + 6)), .ref (k (5 + 8 * i + 7)), .int nx_8])))) H locs := hH
  obtain ⟨f_13, ef_13⟩ : ∃ zz_ : mF, zz_ = va_up f_11 (k (5 + 8 * i)) (some (.inr (3, [.ref (k (5 + 8 * i + 1)), .int 0, .int 0, .long 0, .int th_8, .int ta_8, .ref (k 1), .ref (k (5 + 8 * i + 5)), .ref (k (5 + 8 * i + 6)), .ref (k (5 + 8 * i + 7)), .int nx_8]))) := ⟨_, rfl⟩
  rw [← ef_13] at hH
  have F_14 : f_13 (k (5 + 8 * i)) = some (.inr (3, [.ref (k (5 + 8 * i + 1)), .int 0, .int 0, .long 0, .int th_8, .int ta_8, .ref (k 1), .ref (k (5 + 8 * i + 5)), .ref (k (5 + 8 * i + 6)), .ref (k (5 + 8 * i + 7)), .int nx_8])) := by rw [ef_13]; exact va_up_self _ _ _
  have hI : IC G k rho n T z (stUp st i) f_13 := hI.setRun hi F_12 ef_13 rfl ⟨_, _, _, _, _, some (k 1), _, rfl, Or.inr rfl, fun _ => rfl⟩
  have hfr := hfr.upK (j := (5 + 8 * i + 0)) (by omega) ef_13
  refine lv_aload_n hx hb dX3_start_27 rfl (lv_at hl 0 rfl) ?_
  refine lv_iconst (v := 0) hx hb dX3_start_28 (by decide) ?_
  refine m_put (ci := 3) (v := .int 0) (C := RX3) (T := TX3) (N := 11) hx hb hC hH hts in_X3_start_X3 tyX3 tyX3_ok nmX3 hown F_14 rfl 4 (by decide) (hts (.fieldLink RX3 52 "LazyState$Run" "thrown" "I") (by decide +kernel)) rfl rfl rfl (Nat.le_of_ble_eq_true rfl) dX3_start_29 (fun H locs hH => ?_)
  have hH : mH G s (va_up f_13 (k (5 + 8 * i)) (some (.inr (3, [.ref (k (5 + 8 * i + 1)), .int 0, .int 0, .long 0, .int 0, .int ta_8, .ref (k 1), .ref (k (5 + 8 * i + 5)), .ref (k (5 + 8 * i + 6)), .ref (k (5 + 8 * i + 7)), .int nx_8])))) H locs := hH
  obtain ⟨f_15, ef_15⟩ : ∃ zz_ : mF, zz_ = va_up f_13 (k (5 + 8 * i)) (some (.inr (3, [.ref (k (5 + 8 * i + 1)), .int 0, .int 0, .long 0, .int 0, .int ta_8, .ref (k 1), .ref (k (5 + 8 * i + 5)), .ref (k (5 + 8 * i + 6)), .ref (k (5 + 8 * i + 7)), .int nx_8]))) := ⟨_, rfl⟩
  rw [← ef_15] at hH
  have F_16 : f_15 (k (5 + 8 * i)) = some (.inr (3, [.ref (k (5 + 8 * i + 1)), .int 0, .int 0, .long 0, .int 0, .int ta_8, .ref (k 1), .ref (k (5 + 8 * i + 5)), .ref (k (5 + 8 * i + 6)), .ref (k (5 + 8 * i + 7)), .int nx_8])) := by rw [ef_15]; exact va_up_self _ _ _
  have hI : IC G k rho n T z (stUp st i) f_15 := hI.setRun hi F_14 ef_15 rfl ⟨_, _, _, _, _, some (k 1), _, rfl, Or.inr rfl, fun _ => rfl⟩
  have hfr := hfr.upK (j := (5 + 8 * i + 0)) (by omega) ef_15
  refine lv_aload_n hx hb dX3_start_32 rfl (lv_at hl 0 rfl) ?_
  refine lv_bipush (v := (-3)) hx hb dX3_start_33 (by decide) ?_
  refine m_put (ci := 3) (v := .int (-3)) (C := RX3) (T := TX3) (N := 11) hx hb hC hH hts in_X3_start_X3 tyX3 tyX3_ok nmX3 hown F_16 rfl 5 (by decide) (hts (.fieldLink RX3 18 "LazyState$Run" "thrownAt" "I") (by decide +kernel)) rfl rfl rfl (Nat.le_of_ble_eq_true rfl) dX3_start_35 (fun H locs hH => ?_)
  have hH : mH G s (va_up f_15 (k (5 + 8 * i)) (some (.inr (3, [.ref (k (5 + 8 * i + 1)), .int 0, .int 0, .long 0, .int 0, .int (-3), .ref (k 1), .ref (k (5 + 8 * i + 5)), .ref (k (5 + 8 * i + 6)), .ref (k (5 + 8 * i + 7)), .int nx_8])))) H locs := hH
  obtain ⟨f_17, ef_17⟩ : ∃ zz_ : mF, zz_ = va_up f_15 (k (5 + 8 * i)) (some (.inr (3, [.ref (k (5 + 8 * i + 1)), .int 0, .int 0, .long 0, .int 0, .int (-3), .ref (k 1), .ref (k (5 + 8 * i + 5)), .ref (k (5 + 8 * i + 6)), .ref (k (5 + 8 * i + 7)), .int nx_8]))) := ⟨_, rfl⟩
  rw [← ef_17] at hH
  have F_18 : f_17 (k (5 + 8 * i)) = some (.inr (3, [.ref (k (5 + 8 * i + 1)), .int 0, .int 0, .long 0, .int 0, .int (-3), .ref (k 1), .ref (k (5 + 8 * i + 5)), .ref (k (5 + 8 * i + 6)), .ref (k (5 + 8 * i + 7)), .int nx_8])) := by rw [ef_17]; exact va_up_self _ _ _
  have hI : IC G k rho n T z (stUp st i) f_17 := hI.setRun hi F_16 ef_17 rfl ⟨_, _, _, _, _, some (k 1), _, rfl, Or.inr rfl, fun _ => rfl⟩
  have hfr := hfr.upK (j := (5 + 8 * i + 0)) (by omega) ef_17
  refine lv_aload_n hx hb dX3_start_38 rfl (lv_at hl 0 rfl) ?_
  refine m_get (ci := 3) (v := .ref (k (5 + 8 * i + 6))) (C := RX3) (T := TX3) (N := 11) hx hb hC hH hts in_X3_start_X3 hown F_18 rfl 8 (by decide) (hts (.fieldLink RX3 28 "LazyState$Run" "handles" "[I") (by decide +kernel)) rfl dX3_start_39 ?_
  refine lv_bipush (v := (-3)) hx hb dX3_start_42 (by decide) ?_
  obtain ⟨g_19, hg_19, hp_19⟩ : okI G 0 4 (pHa n) (f_17 (k (5 + 8 * i + 6))) := hI.run (i := i) (c := 6) hi (by decide)
  refine m_gov hH (va_runS (As := [.ref (k (5 + 8 * i + 6)), .int (-3)]) (rest := []) ⟨hx, hb, hml, hown, hts⟩ (c_J7_fill_53178 l G f_17 (k (5 + 8 * i + 6)) 4 (by decide) g_19 hg_19 (-3)) (va_cwS 2 hts gX3_start_J7_fill_53178 rfl rfl rfl (by decide +kernel) ⟨Nat.le_of_ble_eq_true rfl, Nat.le_of_ble_eq_true rfl⟩) (m_preS hC hH) rfl rfl hl.1 rfl (lv_room (Nat.le_of_ble_eq_true rfl)) dX3_start_44 ⟨Nat.le_of_ble_eq_true rfl, Nat.le_of_ble_eq_true rfl⟩) (fun rho_22 f_21 H locs hw hH => ?_)
  obtain ⟨g2_44, ef_21, al_44⟩ := hw
  have ef_21 : f_21 = va_up f_17 (k (5 + 8 * i + 6)) _ := ef_21
  have F_f_21 := upk F_18 ef_21 (neC hj (by omega) (by omega) (by omega))
  have hI : IC G k rho n T z (stUp st i) f_21 := hI.set (j := (5 + 8 * i + 6)) (by omega) ef_21 (fun i_ hi_ => by omega) (by rw [okC_R hi (by decide)]; exact ⟨_, rfl, fun j_ hj_ => Or.inl (by rw [al_44 j_ hj_]; rfl)⟩)
  have hfr := hfr.upK (j := (5 + 8 * i + 6)) (by omega) ef_21
  refine lv_aload_n hx hb dX3_start_47 rfl (lv_at hl 0 rfl) ?_
  refine m_get (ci := 3) (v := .ref (k (5 + 8 * i + 6))) (C := RX3) (T := TX3) (N := 11) hx hb hC hH hts in_X3_start_X3 hown F_f_21 rfl 8 (by decide) (hts (.fieldLink RX3 28 "LazyState$Run" "handles" "[I") (by decide +kernel)) rfl dX3_start_48 ?_
  refine lv_iconst (v := 0) hx hb dX3_start_51 (by decide) ?_
  refine lv_iload_n hx hb dX3_start_52 rfl (lv_at hl 2 rfl) ?_
  obtain ⟨g_23, hg_23, hp_23⟩ : okI G 0 4 (pHa n) (f_21 (k (5 + 8 * i + 6))) := hI.run (i := i) (c := 6) hi (by decide)
  refine m_iast hx hb hC hH hg_23 (vp_in_iff.mpr (by rw [kI_0]; exact ⟨by omega, by omega⟩)) dX3_start_53 (fun H locs hH => ?_)
  obtain ⟨f_24, ef_24⟩ : ∃ zz_ : mF, zz_ = va_up f_21 (k (5 + 8 * i + 6)) (some (.inl (gk G 0, 4, .inl (upd g_23 ((0 : Int32).toNatClampNeg) o)))) := ⟨_, rfl⟩
  rw [← ef_24] at hH
  have F_25 := upk F_f_21 ef_24 (neC hj (i := (5 + 8 * i + 0)) (j := (5 + 8 * i + 6)) (by omega) (by omega) (by omega))
  have hI : IC G k rho n T z (stUp st i) f_24 := hI.set (j := (5 + 8 * i + 6)) (by omega) ef_24 (fun i_ hi_ => by omega) (by rw [okC_R hi (by decide)]; exact ⟨_, rfl, upd_all (P := fun x : Int32 => x.toInt = -3 ∨ (0 ≤ x.toInt ∧ (x.toInt < n ∨ (n = 0 ∧ x.toInt = 0)))) hp_23 (by omega)⟩)
  have hfr := hfr.upK (j := (5 + 8 * i + 6)) (by omega) ef_24
  refine lv_aload_n hx hb dX3_start_54 rfl (lv_at hl 0 rfl) ?_
  refine m_get (ci := 3) (v := .ref (k (5 + 8 * i + 7))) (C := RX3) (T := TX3) (N := 11) hx hb hC hH hts in_X3_start_X3 hown F_25 rfl 9 (by decide) (hts (.fieldLink RX3 32 "LazyState$Run" "values" "[J") (by decide +kernel)) rfl dX3_start_55 ?_
  refine lv_lconst (v := 0) hx hb dX3_start_58 (by decide) ?_
  obtain ⟨g_26, hg_26, hp_26⟩ : okJ G 4 (fun _ => True) (f_24 (k (5 + 8 * i + 7))) := hI.run (i := i) (c := 7) hi (by decide)
  refine m_gov hH (va_runS (As := [.ref (k (5 + 8 * i + 7)), .long 0]) (rest := []) ⟨hx, hb, hml, hown, hts⟩ (c_J7_fill_d0a16 l G f_24 (k (5 + 8 * i + 7)) 4 (by decide) g_26 hg_26 0) (va_cwS 2 hts gX3_start_J7_fill_d0a16 rfl rfl rfl (by decide +kernel) ⟨Nat.le_of_ble_eq_true rfl, Nat.le_of_ble_eq_true rfl⟩) (m_preS hC hH) rfl rfl hl.1 rfl (lv_room (Nat.le_of_ble_eq_true rfl)) dX3_start_59 ⟨Nat.le_of_ble_eq_true rfl, Nat.le_of_ble_eq_true rfl⟩) (fun rho_29 f_28 H locs hw hH => ?_)
  obtain ⟨g2_59, ef_28, al_59⟩ := hw
  have ef_28 : f_28 = va_up f_24 (k (5 + 8 * i + 7)) _ := ef_28
  have F_f_28 := upk F_25 ef_28 (neC hj (by omega) (by omega) (by omega))
  have hI : IC G k rho n T z (stUp st i) f_28 := hI.set (j := (5 + 8 * i + 7)) (by omega) ef_28 (fun i_ hi_ => by omega) (by rw [okC_R hi (by decide)]; exact ⟨_, rfl, trivial⟩)
  have hfr := hfr.upK (j := (5 + 8 * i + 7)) (by omega) ef_28
  refine lv_aload_n hx hb dX3_start_62 rfl (lv_at hl 0 rfl) ?_
  refine m_get (ci := 3) (v := .ref (k (5 + 8 * i + 7))) (C := RX3) (T := TX3) (N := 11) hx hb hC hH hts in_X3_start_X3 hown F_f_28 rfl 9 (by decide) (hts (.fieldLink RX3 32 "LazyState$Run" "values" "[J") (by decide +kernel)) rfl dX3_start_63 ?_
  refine lv_iconst (v := 0) hx hb dX3_start_66 (by decide) ?_
  refine lv_lload_n hx hb dX3_start_67 rfl (lv_at hl 3 rfl) ?_
  obtain ⟨g_30, hg_30, hp_30⟩ : okJ G 4 (fun _ => True) (f_28 (k (5 + 8 * i + 7))) := hI.run (i := i) (c := 7) hi (by decide)
  refine m_last hx hb hC hH hg_30 (vp_in_iff.mpr (by rw [kI_0]; exact ⟨by omega, by omega⟩)) dX3_start_68 (fun H locs hH => ?_)
  obtain ⟨f_31, ef_31⟩ : ∃ zz_ : mF, zz_ = va_up f_28 (k (5 + 8 * i + 7)) (some (.inl (gk G 1, 4, .inr (.inl (vp_updL g_30 ((0 : Int32).toNatClampNeg) v))))) := ⟨_, rfl⟩
  rw [← ef_31] at hH
  have F_32 := upk F_f_28 ef_31 (neC hj (i := (5 + 8 * i + 0)) (j := (5 + 8 * i + 7)) (by omega) (by omega) (by omega))
  have hI : IC G k rho n T z (stUp st i) f_31 := hI.set (j := (5 + 8 * i + 7)) (by omega) ef_31 (fun i_ hi_ => by omega) (by rw [okC_R hi (by decide)]; exact ⟨_, rfl, trivial⟩)
  have hfr := hfr.upK (j := (5 + 8 * i + 7)) (by omega) ef_31
  exact m_vret hx hb hr hlk hC hH rho ⟨rfl, hI, hfr⟩ (Nat.le_of_ble_eq_true rfl) (Nat.le_of_ble_eq_true rfl) dX3_start_69
