set_option maxHeartbeats 4000000 in
set_option maxRecDepth 100000 in
theorem c_X3_loadAhead (l : Launch) (G : mG) (k : Nat → Nat) (own : tR) (n : Nat) (T z : Nat → Nat) (i : Nat) (hi : i < 3) (D : tD) (dn th ta nx : Int32) (σ : tS) (f : mF) (hM : CM G k own n z D f) (hR : RP n T (k 1) i dn th ta nx σ D) (m_ : Int32) (hm_ : m_.toInt = (n : Int)) : Met l yX3_loadAhead wsX3_loadAhead ({ frames := 3, cells := 3 * (nld (ldU n σ) - nld σ), slots := 29 * (nld (ldU n σ) - nld σ), locals := 102 }) (va_Pc [.ref (k (5 + 8 * i)), .int m_] (mW G f)) (va_Qv (fun (u : mS) => RN G k u.1 n T z i D dn th ta nx (ldU n σ) u.2 ∧ frD own f u.1 u.2) (fun (u : mS) t => mW G u.2 t) (mA G)) (3 * (nld (ldU n σ) - nld σ)) (29 * (nld (ldU n σ) - nld σ)) (mA G) := by
  refine mMet [.ref (k (5 + 8 * i)), .int m_] (cc := cX3_loadAhead) (maxL := 3) (ret := none) (by decide) rfl (Nat.le_of_ble_eq_true rfl) ?_
  intro p e s m below meth c ls hx hb hr hml hts hown hlk hnm hC hH hl
  have hl : lv_has ls 3 [(0, .ref (k (5 + 8 * i))), (1, .int m_)] := hl
  have hK : KP i D D := KP.rf
  have hfr : frD own f own f := frD.rf
  have n24_ := hR.1.1
  have hT3_ := hR.1.2
  have ok_ := hR.2.1
  obtain ⟨lb_1, hr_1, hlb_1⟩ := hR.2.2.1
  refine lv_iconst (v := 0) hx hb dX3_loadAhead_0 (by decide) ?_
  refine lv_istore_n (lv' := [(2, .int 0), (0, .ref (k (5 + 8 * i))), (1, .int m_)]) hx hb dX3_loadAhead_1 rfl hl (by decide) rfl (fun ls hl => ?_)
  have loop_2 : ∀ (fuel_ : Nat) (o2 : Int32) (fL : mF) (rhoL : tR) (cl_ sl_ : Nat) (h0_ : 0 ≤ o2.toInt) (h1_ : o2.toInt ≤ (n : Int)) (hfr : frD own f rhoL fL) (hI : RN G k rhoL n T z i D dn th ta nx (ldU o2.toNatClampNeg σ) fL) (hcl : cl_ + 3 * nld σ ≤ 3 * nld (ldU o2.toNatClampNeg σ)) (hsl : sl_ + 29 * nld σ ≤ 29 * nld (ldU o2.toNatClampNeg σ)) (_ : ((n : Int) - o2.toInt).toNat < fuel_) (H : Heap) (locs : List Loc) (ls : Array Slot) (_ : mH G s fL H locs) (_ : lv_has ls 3 [(0, .ref (k (5 + 8 * i))), (1, .int m_), (2, .int o2)]), W p l e ({ frames := 3, cells := 3 * (nld (ldU n σ) - nld σ), slots := 29 * (nld (ldU n σ) - nld σ), locals := 102 } : Room) s m ([.ref (k (5 + 8 * i)), .int m_] : List Value).toArray below meth c H locs cl_ sl_ (MQ below (va_Qv (fun (u : mS) => RN G k u.1 n T z i D dn th ta nx (ldU n σ) u.2 ∧ frD own f u.1 u.2) (fun (u : mS) t => mW G u.2 t) (mA G)) ([.ref (k (5 + 8 * i)), .int m_] : List Value).toArray s (3 * (nld (ldU n σ) - nld σ)) (29 * (nld (ldU n σ) - nld σ)) (mA G)) (F0 m 2 ls []) := by
    intro N_2
    induction N_2 with
    | zero => intro o2 fL rhoL cl_ sl_ h0_ h1_ hfr hI hcl hsl hN; omega
    | succ N_2 ih_2 =>
      intro o2 fL rhoL cl_ sl_ h0_ h1_ hfr hI hcl hsl hN_2 H locs ls hH hl
      obtain ⟨D_2, hM, hR, hK⟩ := hI
      have n24_ := hR.1.1
      have hT3_ := hR.1.2
      have ok_ := hR.2.1
      obtain ⟨lb_3, hr_3, hlb_3⟩ := hR.2.2.1
      have c0_ := ic_clN (rfl : o2.toInt = _) (by omega)
      have nL_ : nld (ldU o2.toNatClampNeg σ) ≤ nld (ldU n σ) := ldU_le (by omega) (by omega)
      refine lv_iload_n hx hb dX3_loadAhead_2 rfl (lv_at hl 2 rfl) ?_
      refine lv_iload_n hx hb dX3_loadAhead_3 rfl (lv_at hl 1 rfl) ?_
      refine lv_icmp_ge (tgt := 18) hx hb dX3_loadAhead_4 (by decide) (fun c_4 => ?_) (fun c_4 => ?_)
      · skip
        have ic_4 : (m_.toInt : Int) ≤ o2.toInt := ic_le rfl rfl c_4
        exact m_vret hx hb hr hlk hC hH rhoL (by have e_ : o2.toNatClampNeg = n := (by have := ic_clN (rfl : o2.toInt = _) (by omega); omega); rw [e_] at hR; exact ⟨⟨_, hM, hR, hK⟩, hfr⟩) (by omega) (by omega) dX3_loadAhead_18
      · skip
        have ic_4 : (m_.toInt : Int) > o2.toInt := ic_nle rfl rfl c_4
        refine lv_aload_n hx hb dX3_loadAhead_7 rfl (lv_at hl 0 rfl) ?_
        refine lv_iload_n hx hb dX3_loadAhead_8 rfl (lv_at hl 2 rfl) ?_
        have c2_ := ic_clN (rfl : o2.toInt = _) (by omega)
        have l1_ : nld (sLd (ldU o2.toNatClampNeg σ) o2.toNatClampNeg) = nld (ldU o2.toNatClampNeg σ) + ldn (ldU o2.toNatClampNeg σ) o2.toNatClampNeg := nld_l (by omega)
        have l2_ : nld (sLd (ldU o2.toNatClampNeg σ) o2.toNatClampNeg) ≤ nld (ldU n σ) := ldU_le (a := o2.toNatClampNeg + 1) (by omega) (by omega)
        have F_8 : fL (k (5 + 8 * i)) = some (.inr (3, [.ref (k (5 + 8 * i + 1)), .int lb_3, .int dn, .long (gfS (ldU o2.toNatClampNeg σ)), .int th, .int ta, .ref (k 1), .ref (k (5 + 8 * i + 5)), .ref (k (5 + 8 * i + 6)), .ref (k (5 + 8 * i + 7)), .int nx])) := by have w_ := hM.r0 i hi; rw [hr_3] at w_; exact w_
        refine m_gov hH (va_runV (As := [.int o2]) (rest := []) ⟨hx, hb, hml, hown, hts⟩ (c_X3_load l G k rhoL n T z i hi D_2 dn th ta nx (ldU o2.toNatClampNeg σ) fL hM hR o2 (by omega)) (cwV 1 hts gX3_loadAhead_X3_load rfl rfl rfl (by decide +kernel) ⟨Nat.le_of_ble_eq_true rfl, Nat.le_of_ble_eq_true rfl⟩) (m_preV (ci := 3) hC hH F_8 rfl) rfl rfl hl.1 rfl (lv_room (Nat.le_of_ble_eq_true rfl)) dX3_loadAhead_9 ⟨by show _ ≤ 3 * (nld (ldU n σ) - nld σ); omega, by show _ ≤ 29 * (nld (ldU n σ) - nld σ); omega⟩) (fun rho_7 f_6 H locs hw hH => ?_)
        obtain ⟨hI, hfr1⟩ := hw
        have hI : RN G k rho_7 n T z i D_2 dn th ta nx (sLd (ldU o2.toNatClampNeg σ) o2.toNatClampNeg) f_6 := hI
        have hfr1 : frD rhoL fL rho_7 f_6 := hfr1
        have hfr := hfr.trans hfr1
        obtain ⟨D_9, hM, hR, hK1_9⟩ := hI
        have hK := hK.trans hK1_9
        have n24_ := hR.1.1
        have hT3_ := hR.1.2
        have ok_ := hR.2.1
        obtain ⟨lb_10, hr_10, hlb_10⟩ := hR.2.2.1
        obtain ⟨x_11, ex_11⟩ : ∃ y : Int32, y = o2 + 1 := ⟨_, rfl⟩
        have ix_11 : x_11.toInt = o2.toInt + 1 := ic_add ex_11 rfl kI_1 (by omega) (by omega)
        refine lv_iinc (v := x_11) (lv' := [(2, .int x_11), (0, .ref (k (5 + 8 * i))), (1, .int m_)]) hx hb dX3_loadAhead_12 hl (k := 2) rfl (by rw [ex_11]; rfl) (by decide) rfl (fun ls hl => ?_)
        refine lv_goto (tgt := 2) hx hb dX3_loadAhead_15 (by decide) ?_
        exact ih_2 x_11 f_6 rho_7 (cl_ + (3 * (ldn (ldU o2.toNatClampNeg σ) o2.toNatClampNeg))) (sl_ + (29 * (ldn (ldU o2.toNatClampNeg σ) o2.toNatClampNeg))) (by omega) (by omega) hfr (by rw [show x_11.toNatClampNeg = o2.toNatClampNeg + 1 from by have := ic_clN (rfl : x_11.toInt = _) (by omega); have := ic_clN (rfl : o2.toInt = _) (by omega); omega]; exact ⟨_, hM, hR, hK⟩) (by rw [show x_11.toNatClampNeg = o2.toNatClampNeg + 1 from by have := ic_clN (rfl : x_11.toInt = _) (by omega); have := ic_clN (rfl : o2.toInt = _) (by omega); omega, show ldU (o2.toNatClampNeg + 1) σ = sLd (ldU o2.toNatClampNeg σ) o2.toNatClampNeg from rfl]; omega) (by rw [show x_11.toNatClampNeg = o2.toNatClampNeg + 1 from by have := ic_clN (rfl : x_11.toInt = _) (by omega); have := ic_clN (rfl : o2.toInt = _) (by omega); omega, show ldU (o2.toNatClampNeg + 1) σ = sLd (ldU o2.toNatClampNeg σ) o2.toNatClampNeg from rfl]; omega) (by omega) _ _ _ hH (lv_sub hl [1, 2, 0] rfl)
  exact loop_2 (((n : Int) - 0).toNat + 1) 0 f own 0 0 (by have := kI_0; omega) (by have := kI_0; omega) hfr (⟨_, hM, hR, hK⟩) (show 0 + 3 * nld σ ≤ 3 * nld σ from by omega) (show 0 + 29 * nld σ ≤ 29 * nld σ from by omega) (by have := kI_0; omega) _ _ _ hH (lv_sub hl [1, 2, 0] rfl)
