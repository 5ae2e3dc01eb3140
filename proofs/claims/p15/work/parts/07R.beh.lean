set_option maxHeartbeats 4000000 in
set_option maxRecDepth 100000 in
theorem c_X1_append (l : Launch) (G : mG) (k : Nat → Nat) (own : tR) (n : Nat) (z : Nat → Nat) (D : tD) (f : mF) (hM : CM G k own n z D f) (b : Nat) (hb6 : b < 6) (hz32 : z b ≤ 32) (a_ : Nat) (t_ : tA) (hact : AD D a_ = some t_) : Met l yX1_append wsX1_append ({ frames := 0, cells := 0, slots := 0, locals := 0 }) (va_Pc [.ref (k (29 + 2 * b)), .ref a_] (mW G f)) (va_Qi (fun (r : Int32) (u : mS) => frD own f u.1 u.2 ∧ ((z b = 32 ∧ r.toInt = -2 ∧ CM G k u.1 n z D u.2) ∨ (z b < 32 ∧ r.toInt = ((z b : Nat) : Int) ∧ CM G k u.1 n (va_up z b (z b + 1)) (dQ D (29 + 2 * b + 1) (va_up (QD D (29 + 2 * b + 1)) (z b) (some a_))) u.2))) (fun (u : mS) t => mW G u.2 t) (mA G)) 0 0 (mA G) := by
  refine mMet [.ref (k (29 + 2 * b)), .ref a_] (cc := cX1_append) (maxL := 2) (ret := (some .int)) (by decide) rfl (Nat.le_of_ble_eq_true rfl) ?_
  intro p e s m below meth c ls hx hb hr hml hts hown hlk hnm hC hH hl
  have hl : lv_has ls 2 [(0, .ref (k (29 + 2 * b))), (1, .ref a_)] := hl
  have hfr : frD own f own f := frD.rf
  refine lv_aload_n hx hb dX1_append_0 rfl (lv_at hl 0 rfl) ?_
  have F_1 : f (k (29 + 2 * b)) = some (.inr (1, [.ref (k (29 + 2 * b + 1)), .int (nI (z b))])) := by have w_ := hM.b0 b hb6; exact w_
  have zI_1 : (nI (z b)).toInt = ((z b : Nat) : Int) := nI_toInt (by omega)
  refine m_get (ci := 1) (v := .int (nI (z b))) (C := RX1) (T := TX1) (N := 2) hx hb hC hH hts in_X1_append_X1 hown F_1 rfl 1 (by decide) (hts (.fieldLink RX1 17 "LazyState$Behaviour" "size" "I") (by decide +kernel)) rfl dX1_append_1 ?_
  refine lv_bipush (v := 32) hx hb dX1_append_4 (by decide) ?_
  refine lv_icmp_lt (tgt := 12) hx hb dX1_append_6 (by decide) (fun c_2 => ?_) (fun c_2 => ?_)
  · skip
    have ic_2 : (((z b : Nat) : Int) : Int) < 32 := ic_lt zI_1 kI_32 c_2
    refine lv_aload_n hx hb dX1_append_12 rfl (lv_at hl 0 rfl) ?_
    refine m_get (ci := 1) (v := .ref (k (29 + 2 * b + 1))) (C := RX1) (T := TX1) (N := 2) hx hb hC hH hts in_X1_append_X1 hown F_1 rfl 0 (by decide) (hts (.fieldLink RX1 11 "LazyState$Behaviour" "acts" "[LLazyState$Act;") (by decide +kernel)) rfl dX1_append_13 ?_
    refine lv_aload_n hx hb dX1_append_16 rfl (lv_at hl 0 rfl) ?_
    refine m_get (ci := 1) (v := .int (nI (z b))) (C := RX1) (T := TX1) (N := 2) hx hb hC hH hts in_X1_append_X1 hown F_1 rfl 1 (by decide) (hts (.fieldLink RX1 17 "LazyState$Behaviour" "size" "I") (by decide +kernel)) rfl dX1_append_17 ?_
    refine lv_aload_n hx hb dX1_append_20 rfl (lv_at hl 1 rfl) ?_
    have hg_3 := hM.b1 b hb6
    have F_4 := hM.a0 a_ _ hact
    refine m_aast (ci := 0) hx hb hC hH 5 rfl hg_3 F_4 rfl (vp_in_iff.mpr (by rw [zI_1]; exact ⟨by omega, by omega⟩)) dX1_append_21 (fun H locs hH => ?_)
    obtain ⟨f_5, ef_5⟩ : ∃ zz_ : mF, zz_ = va_up f (k (29 + 2 * b + 1)) (some (.inl (gk G 5, 32, .inr (.inr (.inr (.inr (va_up (QD D (29 + 2 * b + 1)) ((nI (z b)).toNatClampNeg) (some a_)))))))) := ⟨_, rfl⟩
    rw [← ef_5] at hH
    have ix_ : (nI (z b)).toNatClampNeg = z b := by have := ic_clN zI_1 (by omega); omega
    rw [ix_] at ef_5
    have hfr := hfr.up (by rw [hM.ok (29 + 2 * b + 1) (by omega)]; exact (by decide : (1 : Nat) ≠ 0)) ef_5
    have hM := hM.setQa hb6 ef_5
    refine lv_aload_n hx hb dX1_append_22 rfl (lv_at hl 0 rfl) ?_
    refine lv_dup hx hb dX1_append_23 rfl ?_
    have F_6 : f_5 (k (29 + 2 * b)) = some (.inr (1, [.ref (k (29 + 2 * b + 1)), .int (nI (z b))])) := by have w_ := hM.b0 b hb6; exact w_
    have zI_6 : (nI (z b)).toInt = ((z b : Nat) : Int) := nI_toInt (by omega)
    refine m_get (ci := 1) (v := .int (nI (z b))) (C := RX1) (T := TX1) (N := 2) hx hb hC hH hts in_X1_append_X1 hown F_6 rfl 1 (by decide) (hts (.fieldLink RX1 17 "LazyState$Behaviour" "size" "I") (by decide +kernel)) rfl dX1_append_24 ?_
    refine lv_iconst (v := 1) hx hb dX1_append_27 (by decide) ?_
    refine lv_iadd hx hb dX1_append_28 ?_
    refine lv_topi (fun x_7 ex_7 => ?_)
    have ix_7 : x_7.toInt = ((z b : Nat) : Int) + 1 := ic_add ex_7 zI_6 kI_1 (by omega) (by omega)
    refine m_put (ci := 1) (v := .int x_7) (C := RX1) (T := TX1) (N := 2) hx hb hC hH hts in_X1_append_X1 tyX1 tyX1_ok nmX1 hown F_6 rfl 1 (by decide) (hts (.fieldLink RX1 17 "LazyState$Behaviour" "size" "I") (by decide +kernel)) rfl rfl rfl (Nat.le_of_ble_eq_true rfl) dX1_append_29 (fun H locs hH => ?_)
    have hH : mH G s (va_up f_5 (k (29 + 2 * b)) (some (.inr (1, [.ref (k (29 + 2 * b + 1)), .int x_7])))) H locs := hH
    obtain ⟨f_8, ef_8⟩ : ∃ zz_ : mF, zz_ = va_up f_5 (k (29 + 2 * b)) (some (.inr (1, [.ref (k (29 + 2 * b + 1)), .int x_7]))) := ⟨_, rfl⟩
    rw [← ef_8] at hH
    have zx_ : x_7 = nI (z b + 1) := Int32.toInt_inj.mp (by rw [nI_toInt (by omega)]; omega)
    rw [zx_] at ef_8
    have hfr := hfr.up (by rw [hM.ok (29 + 2 * b) (by omega)]; exact (by decide : (1 : Nat) ≠ 0)) ef_8
    have hM := hM.setZ hb6 (m := z b + 1) ef_8
    refine lv_aload_n hx hb dX1_append_32 rfl (lv_at hl 0 rfl) ?_
    have F_9 : f_8 (k (29 + 2 * b)) = some (.inr (1, [.ref (k (29 + 2 * b + 1)), .int (nI (z b + 1))])) := by have w_ := hM.b0 b hb6; rw [va_up_self] at w_; exact w_
    have zI_9 : (nI (z b + 1)).toInt = ((z b + 1 : Nat) : Int) := nI_toInt (by omega)
    refine m_get (ci := 1) (v := .int (nI (z b + 1))) (C := RX1) (T := TX1) (N := 2) hx hb hC hH hts in_X1_append_X1 hown F_9 rfl 1 (by decide) (hts (.fieldLink RX1 17 "LazyState$Behaviour" "size" "I") (by decide +kernel)) rfl dX1_append_33 ?_
    refine lv_iconst (v := 1) hx hb dX1_append_36 (by decide) ?_
    refine lv_isub hx hb dX1_append_37 ?_
    refine lv_topi (fun x_10 ex_10 => ?_)
    have ix_10 : x_10.toInt = ((z b + 1 : Nat) : Int) - 1 := ic_sub ex_10 zI_9 kI_1 (by omega) (by omega)
    exact m_iret (v := x_10) hx hb hr hlk hC hH own ⟨hfr, Or.inr ⟨by omega, by omega, hM⟩⟩ (Nat.le_of_ble_eq_true rfl) (Nat.le_of_ble_eq_true rfl) dX1_append_38
  · skip
    have ic_2 : (((z b : Nat) : Int) : Int) ≥ 32 := ic_nlt zI_1 kI_32 c_2
    refine lv_bipush (v := (-2)) hx hb dX1_append_9 (by decide) ?_
    exact m_iret (v := (-2)) hx hb hr hlk hC hH own ⟨hfr, Or.inl ⟨by omega, kI_m2, hM⟩⟩ (Nat.le_of_ble_eq_true rfl) (Nat.le_of_ble_eq_true rfl) dX1_append_11
