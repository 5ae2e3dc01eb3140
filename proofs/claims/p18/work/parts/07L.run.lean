set_option maxHeartbeats 4000000 in
set_option maxRecDepth 100000 in
theorem c_X1_actAt (l : Launch) (G : mG) (k : Nat → Nat) (own : tR) (n : Nat) (z : Nat → Nat) (D : tD) (f : mF) (hM : CM G k own n z D f) (b : Nat) (hb6 : b < 6) (hz32 : z b ≤ 32) (kx : Int32) : Met l yX1_actAt wsX1_actAt ({ frames := 0, cells := 0, slots := 0, locals := 0 }) (va_Pc [.ref (k (29 + 2 * b)), .int kx] (mW G f)) (va_Qq (fun (r : Option Nat) (u : mS) => u.2 = f ∧ ((0 ≤ kx.toInt ∧ kx.toInt < z b ∧ r = QD D (29 + 2 * b + 1) kx.toNatClampNeg) ∨ ((kx.toInt < 0 ∨ (z b : Int) ≤ kx.toInt) ∧ r = none))) (fun (u : mS) t => mW G u.2 t) (mA G)) 0 0 (mA G) := by
  refine mMet [.ref (k (29 + 2 * b)), .int kx] (cc := cX1_actAt) (maxL := 2) (ret := (some (.object "LazyState$Act"))) (by decide) rfl (Nat.le_of_ble_eq_true rfl) ?_
  intro p e s m below meth c ls hx hb hr hml hts hown hlk hnm hC hH hl
  have hl : lv_has ls 2 [(0, .ref (k (29 + 2 * b))), (1, .int kx)] := hl
  refine lv_iload_n hx hb dX1_actAt_0 rfl (lv_at hl 1 rfl) ?_
  refine lv_if_lt (tgt := 21) hx hb dX1_actAt_1 (by decide) (fun c_1 => ?_) (fun c_1 => ?_)
  · skip
    have ic_1 : (kx.toInt : Int) < 0 := ic_lt rfl kI_0 c_1
    refine lv_null hx hb dX1_actAt_21 ?_
    exact m_aret (v := none) hx hb hr hlk hC hH (fun _ => (0, 0)) ⟨rfl, Or.inr ⟨by omega, rfl⟩⟩ (Nat.le_of_ble_eq_true rfl) (Nat.le_of_ble_eq_true rfl) dX1_actAt_22
  · skip
    have ic_1 : (kx.toInt : Int) ≥ 0 := ic_nlt rfl kI_0 c_1
    refine lv_iload_n hx hb dX1_actAt_4 rfl (lv_at hl 1 rfl) ?_
    refine lv_aload_n hx hb dX1_actAt_5 rfl (lv_at hl 0 rfl) ?_
    have F_2 := hM.b0 b hb6
    have zI_2 : (nI (z b)).toInt = ((z b : Nat) : Int) := nI_toInt (by omega)
    refine m_get (ci := 1) (v := .int (nI (z b))) (C := RX1) (T := TX1) (N := 2) hx hb hC hH hts in_X1_actAt_X1 hown F_2 rfl 1 (by decide) (hts (.fieldLink RX1 17 "LazyState$Behaviour" "size" "I") (by decide +kernel)) rfl dX1_actAt_6 ?_
    refine lv_icmp_ge (tgt := 21) hx hb dX1_actAt_9 (by decide) (fun c_3 => ?_) (fun c_3 => ?_)
    · skip
      have ic_3 : (((z b : Nat) : Int) : Int) ≤ kx.toInt := ic_le zI_2 rfl c_3
      refine lv_null hx hb dX1_actAt_21 ?_
      exact m_aret (v := none) hx hb hr hlk hC hH (fun _ => (0, 0)) ⟨rfl, Or.inr ⟨by omega, rfl⟩⟩ (Nat.le_of_ble_eq_true rfl) (Nat.le_of_ble_eq_true rfl) dX1_actAt_22
    · skip
      have ic_3 : (((z b : Nat) : Int) : Int) > kx.toInt := ic_nle zI_2 rfl c_3
      refine lv_aload_n hx hb dX1_actAt_12 rfl (lv_at hl 0 rfl) ?_
      refine m_get (ci := 1) (v := .ref (k (29 + 2 * b + 1))) (C := RX1) (T := TX1) (N := 2) hx hb hC hH hts in_X1_actAt_X1 hown F_2 rfl 0 (by decide) (hts (.fieldLink RX1 11 "LazyState$Behaviour" "acts" "[LLazyState$Act;") (by decide +kernel)) rfl dX1_actAt_13 ?_
      refine lv_iload_n hx hb dX1_actAt_16 rfl (lv_at hl 1 rfl) ?_
      have hg_4 := hM.b1 b hb6
      refine m_aald hx hb hC hH 5 rfl hg_4 (vp_in_iff.mpr ⟨by omega, by omega⟩) dX1_actAt_17 ?_
      refine lv_goto (tgt := 22) hx hb dX1_actAt_18 (by decide) ?_
      exact m_aret (v := QD D (29 + 2 * b + 1) kx.toNatClampNeg) hx hb hr hlk hC hH (fun _ => (0, 0)) ⟨rfl, Or.inl ⟨by omega, by omega, rfl⟩⟩ (Nat.le_of_ble_eq_true rfl) (Nat.le_of_ble_eq_true rfl) dX1_actAt_22
