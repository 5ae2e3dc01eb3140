set_option maxHeartbeats 4000000 in
set_option maxRecDepth 100000 in
theorem c_X1_empty (l : Launch) (G : mG) (k : Nat → Nat) (own : tR) (n : Nat) (z : Nat → Nat) (D : tD) (f : mF) (hM : CM G k own n z D f) (b : Nat) (hb6 : b < 6) (hz32 : z b ≤ 32) : Met l yX1_empty wsX1_empty ({ frames := 0, cells := 0, slots := 0, locals := 0 }) (va_Pc [.ref (k (29 + 2 * b))] (mW G f)) (va_Qi (fun (r : Int32) (u : mS) => CM G k u.1 n (va_up z b 0) D u.2 ∧ frD own f u.1 u.2 ∧ r.toInt = ((z b : Nat) : Int)) (fun (u : mS) t => mW G u.2 t) (mA G)) 0 0 (mA G) := by
  refine mMet [.ref (k (29 + 2 * b))] (cc := cX1_empty) (maxL := 2) (ret := (some .int)) (by decide) rfl (Nat.le_of_ble_eq_true rfl) ?_
  intro p e s m below meth c ls hx hb hr hml hts hown hlk hnm hC hH hl
  have hl : lv_has ls 2 [(0, .ref (k (29 + 2 * b)))] := hl
  have hfr : frD own f own f := frD.rf
  refine lv_aload_n hx hb dX1_empty_0 rfl (lv_at hl 0 rfl) ?_
  have F_1 : f (k (29 + 2 * b)) = some (.inr (1, [.ref (k (29 + 2 * b + 1)), .int (nI (z b))])) := by have w_ := hM.b0 b hb6; exact w_
  have zI_1 : (nI (z b)).toInt = ((z b : Nat) : Int) := nI_toInt (by omega)
  refine m_get (ci := 1) (v := .int (nI (z b))) (C := RX1) (T := TX1) (N := 2) hx hb hC hH hts in_X1_empty_X1 hown F_1 rfl 1 (by decide) (hts (.fieldLink RX1 17 "LazyState$Behaviour" "size" "I") (by decide +kernel)) rfl dX1_empty_1 ?_
  refine lv_istore_n (lv' := [(1, .int (nI (z b))), (0, .ref (k (29 + 2 * b)))]) hx hb dX1_empty_4 rfl hl (by decide) rfl (fun ls hl => ?_)
  refine lv_aload_n hx hb dX1_empty_5 rfl (lv_at hl 1 rfl) ?_
  refine lv_iconst (v := 0) hx hb dX1_empty_6 (by decide) ?_
  refine m_put (ci := 1) (v := .int 0) (C := RX1) (T := TX1) (N := 2) hx hb hC hH hts in_X1_empty_X1 tyX1 tyX1_ok nmX1 hown F_1 rfl 1 (by decide) (hts (.fieldLink RX1 17 "LazyState$Behaviour" "size" "I") (by decide +kernel)) rfl rfl rfl (Nat.le_of_ble_eq_true rfl) dX1_empty_7 (fun H locs hH => ?_)
  have hH : mH G s (va_up f (k (29 + 2 * b)) (some (.inr (1, [.ref (k (29 + 2 * b + 1)), .int 0])))) H locs := hH
  obtain ⟨f_2, ef_2⟩ : ∃ zz_ : mF, zz_ = va_up f (k (29 + 2 * b)) (some (.inr (1, [.ref (k (29 + 2 * b + 1)), .int 0]))) := ⟨_, rfl⟩
  rw [← ef_2] at hH
  have zx_ : (0 : Int32) = nI (0) := Int32.toInt_inj.mp (by rw [nI_toInt (by omega)]; have := kI_0; omega)
  rw [zx_] at ef_2
  have hfr := hfr.up (by rw [hM.ok (29 + 2 * b) (by omega)]; exact (by decide : (1 : Nat) ≠ 0)) ef_2
  have hM := hM.setZ hb6 (m := 0) ef_2
  refine lv_iload_n hx hb dX1_empty_10 rfl (lv_at hl 0 rfl) ?_
  exact m_iret (v := nI (z b)) hx hb hr hlk hC hH own ⟨hM, hfr, zI_1⟩ (Nat.le_of_ble_eq_true rfl) (Nat.le_of_ble_eq_true rfl) dX1_empty_11
