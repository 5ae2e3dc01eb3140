set_option maxHeartbeats 4000000 in
set_option maxRecDepth 100000 in
theorem c_X3_changesLike (l : Launch) (G : mG) (k : Nat → Nat) (own : tR) (n : Nat) (T z : Nat → Nat) (i : Nat) (hi : i < 3) (D : tD) (dn th ta nx : Int32) (σ : tS) (f : mF) (hM : CM G k own n z D f) (hR : RP n T (k 1) i dn th ta nx σ D) (i2 : Nat) (hi2 : i2 < 3) (dn2 th2 ta2 nx2 : Int32) (σ2 : tS) (hR2 : RP n T (k 1) i2 dn2 th2 ta2 nx2 σ2 D) (m_ : Int32) (hm_ : m_.toInt = (n : Int)) : Met l yX3_changesLike wsX3_changesLike ({ frames := 3, cells := 0, slots := 0, locals := 66 }) (va_Pc [.ref (k (5 + 8 * i)), .ref (k (5 + 8 * i2)), .int m_] (mW G f)) (va_Qi (fun (r : Int32) (u : mS) => u.2 = f ∧ ((r.toInt = 1 ∧ (th.toInt ≠ 0 ∨ (∀ o_, o_ < n → ∀ j_, j_ < 8 → sameF (T o_) j_ (bdS σ o_) (bdS σ2 o_)))) ∨ (r.toInt = 0 ∧ ¬ (th.toInt ≠ 0 ∨ (∀ o_, o_ < n → ∀ j_, j_ < 8 → sameF (T o_) j_ (bdS σ o_) (bdS σ2 o_)))))) (fun (u : mS) t => mW G u.2 t) (mA G)) 0 0 (mA G) := by
  refine mMet [.ref (k (5 + 8 * i)), .ref (k (5 + 8 * i2)), .int m_] (cc := cX3_changesLike) (maxL := 5) (ret := (some .boolean)) (by decide) rfl (Nat.le_of_ble_eq_true rfl) ?_
  intro p e s m below meth c ls hx hb hr hml hts hown hlk hnm hC hH hl
  have hl : lv_has ls 5 [(0, .ref (k (5 + 8 * i))), (1, .ref (k (5 + 8 * i2))), (2, .int m_)] := hl
  have hK : KP i D D := KP.rf
  have hfr : frD own f own f := frD.rf
  obtain ⟨lb2_, hr2_, hlb2_⟩ := hR2.2.2.1
  have n24_ := hR.1.1
  have hT3_ := hR.1.2
  have ok_ := hR.2.1
  obtain ⟨lb_1, hr_1, hlb_1⟩ := hR.2.2.1
  refine lv_aload_n hx hb dX3_changesLike_0 rfl (lv_at hl 0 rfl) ?_
  have F_2 : f (k (5 + 8 * i)) = some (.inr (3, [.ref (k (5 + 8 * i + 1)), .int lb_1, .int dn, .long (gfS σ), .int th, .int ta, .ref (k 1), .ref (k (5 + 8 * i + 5)), .ref (k (5 + 8 * i + 6)), .ref (k (5 + 8 * i + 7)), .int nx])) := by have w_ := hM.r0 i hi; rw [hr_1] at w_; exact w_
  refine m_get (ci := 3) (v := .int th) (C := RX3) (T := TX3) (N := 11) hx hb hC hH hts in_X3_changesLike_X3 hown F_2 rfl 4 (by decide) (hts (.fieldLink RX3 52 "LazyState$Run" "thrown" "I") (by decide +kernel)) rfl dX3_changesLike_1 ?_
  refine lv_if_eq (tgt := 9) hx hb dX3_changesLike_4 (by decide) (fun c_3 => ?_) (fun c_3 => ?_)
  · skip
    have ic_3 : (th.toInt : Int) = 0 := ic_eq rfl kI_0 c_3
    refine lv_iconst (v := 0) hx hb dX3_changesLike_9 (by decide) ?_
    refine lv_istore_n (lv' := [(3, .int 0), (0, .ref (k (5 + 8 * i))), (1, .ref (k (5 + 8 * i2))), (2, .int m_)]) hx hb dX3_changesLike_10 rfl hl (by decide) rfl (fun ls hl => ?_)
    have loop_11 : ∀ (fuel_ : Nat) (o3 : Int32) (h0_ : 0 ≤ o3.toInt) (h1_ : o3.toInt ≤ (n : Int)) (ho_ : ∀ o_ : Nat, (o_ : Int) < o3.toInt → ∀ j_, j_ < 8 → sameF (T o_) j_ (bdS σ o_) (bdS σ2 o_)) (_ : ((n : Int) - o3.toInt).toNat < fuel_) (H : Heap) (locs : List Loc) (ls : Array Slot) (_ : mH G s f H locs) (_ : lv_has ls 5 [(0, .ref (k (5 + 8 * i))), (1, .ref (k (5 + 8 * i2))), (2, .int m_), (3, .int o3)]), W p l e ({ frames := 3, cells := 0, slots := 0, locals := 66 } : Room) s m ([.ref (k (5 + 8 * i)), .ref (k (5 + 8 * i2)), .int m_] : List Value).toArray below meth c H locs 0 0 (MQ below (va_Qi (fun (r : Int32) (u : mS) => u.2 = f ∧ ((r.toInt = 1 ∧ (th.toInt ≠ 0 ∨ (∀ o_, o_ < n → ∀ j_, j_ < 8 → sameF (T o_) j_ (bdS σ o_) (bdS σ2 o_)))) ∨ (r.toInt = 0 ∧ ¬ (th.toInt ≠ 0 ∨ (∀ o_, o_ < n → ∀ j_, j_ < 8 → sameF (T o_) j_ (bdS σ o_) (bdS σ2 o_)))))) (fun (u : mS) t => mW G u.2 t) (mA G)) ([.ref (k (5 + 8 * i)), .ref (k (5 + 8 * i2)), .int m_] : List Value).toArray s 0 0 (mA G)) (F0 m 11 ls []) := by
      intro N_11
      induction N_11 with
      | zero => intro o3 h0_ h1_ ho_ hN; omega
      | succ N_11 ih_11 =>
        intro o3 h0_ h1_ ho_ hN_11 H locs ls hH hl
        refine lv_iload_n hx hb dX3_changesLike_11 rfl (lv_at hl 3 rfl) ?_
        refine lv_iload_n hx hb dX3_changesLike_12 rfl (lv_at hl 2 rfl) ?_
        refine lv_icmp_ge (tgt := 58) hx hb dX3_changesLike_13 (by decide) (fun c_4 => ?_) (fun c_4 => ?_)
        · skip
          have ic_4 : (m_.toInt : Int) ≤ o3.toInt := ic_le rfl rfl c_4
          refine lv_iconst (v := 1) hx hb dX3_changesLike_58 (by decide) ?_
          exact m_zret (v := 1) hx hb hr (by rfl) hlk hC hH own ⟨rfl, Or.inl ⟨kI_1, Or.inr (fun o_ h_ => ho_ o_ (by omega))⟩⟩ (Nat.le_of_ble_eq_true rfl) (Nat.le_of_ble_eq_true rfl) dX3_changesLike_59
        · skip
          have ic_4 : (m_.toInt : Int) > o3.toInt := ic_nle rfl rfl c_4
          refine lv_iconst (v := 0) hx hb dX3_changesLike_16 (by decide) ?_
          refine lv_istore (lv' := [(4, .int 0), (0, .ref (k (5 + 8 * i))), (1, .ref (k (5 + 8 * i2))), (2, .int m_), (3, .int o3)]) hx hb dX3_changesLike_17 hl (by decide) rfl (fun ls hl => ?_)
          have loop_19 : ∀ (fuel_ : Nat) (j4 : Int32) (g0_ : 0 ≤ j4.toInt) (g1_ : j4.toInt ≤ 8) (hj2_ : ∀ j_ : Nat, (j_ : Int) < j4.toInt → sameF (T o3.toNatClampNeg) j_ (bdS σ o3.toNatClampNeg) (bdS σ2 o3.toNatClampNeg)) (_ : ((8 : Int) - j4.toInt).toNat < fuel_) (H : Heap) (locs : List Loc) (ls : Array Slot) (_ : mH G s f H locs) (_ : lv_has ls 5 [(0, .ref (k (5 + 8 * i))), (1, .ref (k (5 + 8 * i2))), (2, .int m_), (3, .int o3), (4, .int j4)]), W p l e ({ frames := 3, cells := 0, slots := 0, locals := 66 } : Room) s m ([.ref (k (5 + 8 * i)), .ref (k (5 + 8 * i2)), .int m_] : List Value).toArray below meth c H locs 0 0 (MQ below (va_Qi (fun (r : Int32) (u : mS) => u.2 = f ∧ ((r.toInt = 1 ∧ (th.toInt ≠ 0 ∨ (∀ o_, o_ < n → ∀ j_, j_ < 8 → sameF (T o_) j_ (bdS σ o_) (bdS σ2 o_)))) ∨ (r.toInt = 0 ∧ ¬ (th.toInt ≠ 0 ∨ (∀ o_, o_ < n → ∀ j_, j_ < 8 → sameF (T o_) j_ (bdS σ o_) (bdS σ2 o_)))))) (fun (u : mS) t => mW G u.2 t) (mA G)) ([.ref (k (5 + 8 * i)), .ref (k (5 + 8 * i2)), .int m_] : List Value).toArray s 0 0 (mA G)) (F0 m 19 ls []) := by
            intro N_19
            induction N_19 with
            | zero => intro j4 g0_ g1_ hj2_ hN; omega
            | succ N_19 ih_19 =>
              intro j4 g0_ g1_ hj2_ hN_19 H locs ls hH hl
              refine lv_iload hx hb dX3_changesLike_19 (lv_at hl 4 rfl) ?_
              refine lv_bipush (v := 8) hx hb dX3_changesLike_21 (by decide) ?_
              refine lv_icmp_ge (tgt := 52) hx hb dX3_changesLike_23 (by decide) (fun c_5 => ?_) (fun c_5 => ?_)
              · skip
                have ic_5 : (8 : Int) ≤ j4.toInt := ic_le kI_8 rfl c_5
                obtain ⟨x_6, ex_6⟩ : ∃ y : Int32, y = o3 + 1 := ⟨_, rfl⟩
                have ix_6 : x_6.toInt = o3.toInt + 1 := ic_add ex_6 rfl kI_1 (by omega) (by omega)
                refine lv_iinc (v := x_6) (lv' := [(3, .int x_6), (0, .ref (k (5 + 8 * i))), (1, .ref (k (5 + 8 * i2))), (2, .int m_), (4, .int j4)]) hx hb dX3_changesLike_52 hl (k := 3) rfl (by rw [ex_6]; rfl) (by decide) rfl (fun ls hl => ?_)
                refine lv_goto (tgt := 11) hx hb dX3_changesLike_55 (by decide) ?_
                exact ih_11 x_6 (by omega) (by omega) (fun o_ h_ j_ hj_ => (Decidable.em (o_ = o3.toNatClampNeg)).elim (fun z_ => by rw [z_]; exact hj2_ j_ (by omega)) (fun z_ => ho_ o_ (by have := ic_clN (rfl : o3.toInt = _) (by omega); omega) j_ hj_)) (by omega) _ _ _ hH (lv_sub hl [1, 2, 3, 0] rfl)
              · skip
                have ic_5 : (8 : Int) > j4.toInt := ic_nle kI_8 rfl c_5
                refine lv_aload_n hx hb dX3_changesLike_26 rfl (lv_at hl 0 rfl) ?_
                refine lv_iload_n hx hb dX3_changesLike_27 rfl (lv_at hl 3 rfl) ?_
                refine m_goq hH (va_runV (As := [.int o3]) (rest := []) ⟨hx, hb, hml, hown, hts⟩ (c_X3_bodyOf l G k own n T z i hi D dn th ta nx σ f hM hR o3 (by omega)) (cwV 1 hts gX3_changesLike_X3_bodyOf rfl rfl rfl (by decide +kernel) ⟨Nat.le_of_ble_eq_true rfl, Nat.le_of_ble_eq_true rfl⟩) (m_preV (ci := 3) hC hH F_2 rfl) rfl rfl hl.1 rfl (lv_room (Nat.le_of_ble_eq_true rfl)) dX3_changesLike_28 ⟨Nat.le_of_ble_eq_true rfl, Nat.le_of_ble_eq_true rfl⟩) (fun r_7 rho_9 f_8 H locs hw hH => ?_)
                obtain ⟨hu, ba_10, bb_10, hr_10, u2_10, u4_10, u5_10⟩ := hw
                have hu : f_8 = f := hu
                rw [hu] at hH
                have hr_10 : r_7 = some ba_10 := hr_10
                rw [hr_10]
                refine lv_aload_n hx hb dX3_changesLike_31 rfl (lv_at hl 1 rfl) ?_
                refine lv_iload_n hx hb dX3_changesLike_32 rfl (lv_at hl 3 rfl) ?_
                have F_14 : f (k (5 + 8 * i2)) = some (.inr (3, [.ref (k (5 + 8 * i2 + 1)), .int lb2_, .int dn2, .long (gfS σ2), .int th2, .int ta2, .ref (k 1), .ref (k (5 + 8 * i2 + 5)), .ref (k (5 + 8 * i2 + 6)), .ref (k (5 + 8 * i2 + 7)), .int nx2])) := by have w_ := hM.r0 i2 hi2; rw [hr2_] at w_; exact w_
                refine m_goq hH (va_runV (As := [.int o3]) (rest := [.ref ba_10]) ⟨hx, hb, hml, hown, hts⟩ (c_X3_bodyOf l G k own n T z i2 hi2 D dn2 th2 ta2 nx2 σ2 f hM hR2 o3 (by omega)) (cwV 1 hts gX3_changesLike_X3_bodyOf rfl rfl rfl (by decide +kernel) ⟨Nat.le_of_ble_eq_true rfl, Nat.le_of_ble_eq_true rfl⟩) (m_preV (ci := 3) hC hH F_14 rfl) rfl rfl hl.1 rfl (lv_room (Nat.le_of_ble_eq_true rfl)) dX3_changesLike_33 ⟨Nat.le_of_ble_eq_true rfl, Nat.le_of_ble_eq_true rfl⟩) (fun r_11 rho_13 f_12 H locs hw hH => ?_)
                obtain ⟨hu, ba_15, bb_15, hr_15, u2_15, u4_15, u5_15⟩ := hw
                have hu : f_12 = f := hu
                rw [hu] at hH
                have hr_15 : r_11 = some ba_15 := hr_15
                rw [hr_15]
                refine lv_iload hx hb dX3_changesLike_36 (lv_at hl 4 rfl) ?_
                have F_19 : f ba_10 = some (.inr (2, [.int (nI (yB bb_10)), .ref (caB bb_10), .ref (iaB bb_10), .int (siB bb_10), va_rf (bfB bb_10)])) := (hM.bf u2_10).1
                have tI_19 : (nI (yB bb_10)).toInt = ((yB bb_10 : Nat) : Int) := nI_toInt (by rw [u4_10]; have := hT3_ o3.toNatClampNeg; omega)
                refine m_goi hH (va_runV (As := [.ref ba_15, .int j4]) (rest := []) ⟨hx, hb, hml, hown, hts⟩ (c_X2_hasSameField l G f ba_10 bb_10 (hM.bf u2_10) (by rw [u4_10]; have := hT3_ o3.toNatClampNeg; omega) ba_15 bb_15 (hM.bf u2_15) (by rw [u4_15]; have := hT3_ o3.toNatClampNeg; omega) j4 (by omega)) (cwV 2 hts gX3_changesLike_X2_hasSameField rfl rfl rfl (by decide +kernel) ⟨Nat.le_of_ble_eq_true rfl, Nat.le_of_ble_eq_true rfl⟩) (m_preV (ci := 2) hC hH F_19 rfl) rfl rfl hl.1 rfl (lv_room (Nat.le_of_ble_eq_true rfl)) dX3_changesLike_38 ⟨Nat.le_of_ble_eq_true rfl, Nat.le_of_ble_eq_true rfl⟩) (fun r_16 rho_18 f_17 H locs hw hH => ?_)
                obtain ⟨hu, hr_16⟩ := hw
                have hu : f_17 = f := hu
                rw [hu] at hH
                try dsimp only at hr_16
                have c3_ := ic_clN (rfl : o3.toInt = _) (by omega)
                have c4_ := ic_clN (rfl : j4.toInt = _) (by omega)
                have sm_ : sameF (yB bb_10) j4.toNatClampNeg (cB bb_10) (cB bb_15) ↔ sameF (T o3.toNatClampNeg) j4.toNatClampNeg (bdS σ o3.toNatClampNeg) (bdS σ2 o3.toNatClampNeg) := by rw [u4_10]; exact sameF_c (u5_10 _ (by omega)) (u5_15 _ (by omega))
                rw [sm_] at hr_16
                refine lv_if_ne (tgt := 46) hx hb dX3_changesLike_41 (by decide) (fun c_20 => ?_) (fun c_20 => ?_)
                · skip
                  have ic_20 : (r_16.toInt : Int) ≠ 0 := ic_ne rfl kI_0 c_20
                  obtain ⟨x_21, ex_21⟩ : ∃ y : Int32, y = j4 + 1 := ⟨_, rfl⟩
                  have ix_21 : x_21.toInt = j4.toInt + 1 := ic_add ex_21 rfl kI_1 (by omega) (by omega)
                  refine lv_iinc (v := x_21) (lv' := [(4, .int x_21), (0, .ref (k (5 + 8 * i))), (1, .ref (k (5 + 8 * i2))), (2, .int m_), (3, .int o3)]) hx hb dX3_changesLike_46 hl (k := 4) rfl (by rw [ex_21]; rfl) (by decide) rfl (fun ls hl => ?_)
                  refine lv_goto (tgt := 19) hx hb dX3_changesLike_49 (by decide) ?_
                  exact ih_19 x_21 (by omega) (by omega) (fun j_ h_ => (Decidable.em (j_ = j4.toNatClampNeg)).elim (fun z_ => by rw [z_]; exact (hr_16.resolve_right (fun x_ => by omega)).2) (fun z_ => hj2_ j_ (by omega))) (by omega) _ _ _ hH (lv_sub hl [1, 2, 3, 4, 0] rfl)
                · skip
                  have ic_20 : (r_16.toInt : Int) = 0 := ic_eq rfl kI_0 c_20
                  refine lv_iconst (v := 0) hx hb dX3_changesLike_44 (by decide) ?_
                  exact m_zret (v := 0) hx hb hr (by rfl) hlk hC hH own ⟨rfl, Or.inr ⟨kI_0, fun z_ => z_.elim (fun y_ => y_ (by omega)) (fun y_ => (hr_16.resolve_left (fun x_ => by omega)).2 (y_ o3.toNatClampNeg (by omega) j4.toNatClampNeg (by omega)))⟩⟩ (Nat.le_of_ble_eq_true rfl) (Nat.le_of_ble_eq_true rfl) dX3_changesLike_45
          exact loop_19 (((8 : Int) - 0).toNat + 1) 0 (by have := kI_0; omega) (by have := kI_0; omega) (fun j_ h_ => by have := kI_0; omega) (by have := kI_0; omega) _ _ _ hH (lv_sub hl [1, 2, 3, 4, 0] rfl)
    exact loop_11 (((n : Int) - 0).toNat + 1) 0 (by have := kI_0; omega) (by have := kI_0; omega) (fun o_ h_ => by have := kI_0; omega) (by have := kI_0; omega) _ _ _ hH (lv_sub hl [1, 2, 3, 0] rfl)
  · skip
    have ic_3 : (th.toInt : Int) ≠ 0 := ic_ne rfl kI_0 c_3
    refine lv_iconst (v := 1) hx hb dX3_changesLike_7 (by decide) ?_
    exact m_zret (v := 1) hx hb hr (by rfl) hlk hC hH own ⟨rfl, Or.inl ⟨kI_1, Or.inl (by omega)⟩⟩ (Nat.le_of_ble_eq_true rfl) (Nat.le_of_ble_eq_true rfl) dX3_changesLike_8
