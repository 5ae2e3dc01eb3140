set_option maxHeartbeats 4000000 in
set_option maxRecDepth 100000 in
theorem c_X2_init (l : Launch) (G : mG) (k : Nat → Nat) (rho : tR) (n : Nat) (T z : Nat → Nat) (st : Nat → Bool) (f : mF) (hI : IC G k rho n T z st f) (q t : Nat) (Fq : f q = some (.inr (2, [.int 0, .null, .null, .int 0, .null]))) (h0 : (rho q).1 = 0) (hk0 : ∀ j, j < 41 → q ≠ k j) (ht : t < 3) (ty : Int32) (hty : ty.toInt = t) : Met l yX2_init wsX2_init ({ frames := 1, cells := 2, slots := 24, locals := 12 }) (va_Pc [.ref q, .int ty] (mW G f)) (va_Qv (fun (u : mS) => ∃ ca ia : Nat, u.1 = va_up (va_up (va_up rho ca (2, t)) ia (3, 0)) q (1, t) ∧ IC G k u.1 n T z st u.2 ∧ f ca = none ∧ f ia = none ∧ (∀ (a : Nat) (e : va_E), a ≠ q → f a = some e → u.2 a = some e) ∧ u.2 q = some (.inr (2, [.int ty, .ref ca, .ref ia, .int 0, .null]))) (fun (u : mS) t => mW G u.2 t) (mA G)) 2 24 (mA G) := by
  refine mMet [.ref q, .int ty] (cc := cX2_init) (maxL := 4) (ret := none) (by decide) rfl (Nat.le_of_ble_eq_true rfl) ?_
  intro p e s m below meth c ls hx hb hr hml hts hown hlk hnm hC hH hl
  have hl : lv_has ls 4 [(0, .ref q), (1, .int ty)] := hl
  have hj := hI.2.2.2.2.1
  have hn24 := hI.2.2.2.2.2.2.1
  have hT3 := hI.2.2.2.2.2.2.2.1
  have hz32 := hI.2.2.2.2.2.2.2.2
  have nIn : (nI n).toInt = (n : Int) := nI_toInt (by omega)
  have hfr : frC k rho f rho f := frC.rf
  have hex : ∀ (a : Nat) (e : va_E), a ≠ q → f a = some e → f a = some e := fun _ _ _ h_ => h_
  refine lv_aload_n hx hb dX2_init_0 rfl (lv_at hl 0 rfl) ?_
  refine W.objInit hx hb hown (hts (.methodLink RX2 3 objectInit) (by decide +kernel)) (hts (.instanceMethod objectInit) (by decide +kernel)) (hts (.code objectInit ⟨#[0xb1]⟩ 1 none) (by decide +kernel)) rfl (hl.1.trans hml.symm) rfl dX2_init_1 (Nat.le_of_ble_eq_true rfl) (Nat.le_of_ble_eq_true rfl) ?_
  refine lv_aload_n hx hb dX2_init_4 rfl (lv_at hl 0 rfl) ?_
  refine lv_bipush (v := 8) hx hb dX2_init_5 (by decide) ?_
  refine m_newa (atype := .long) (cA := gk G 1) (N' := 8) (a0 := (8, .inr (.inl (fun _ => 0)))) hx hb hC hH (hts (.arrayClass .long) (by decide +kernel)) (hC.2.1.1.2 1 _ rfl).2 rfl (by decide) (by decide) (by decide) (by show _ ≤ 2; omega) (by show _ ≤ 24; omega) dX2_init_7 (fun q_1 H hlt_q_1 hge_q_1 hno_q_1 hH => ?_)
  obtain ⟨f_2, ef_2⟩ : ∃ zz_ : mF, zz_ = va_up f q_1 (some (.inl (gk G 1, 8, .inr (.inl (fun _ => 0))))) := ⟨_, rfl⟩
  rw [← ef_2] at hH
  have f0_q_1 := hI.fresh hno_q_1
  have F_3 := upk Fq ef_2 (Nat.ne_of_lt (hlt_q_1 _ _ Fq))
  have hI : IC G k rho n T z st f_2 := hI.setU f0_q_1.1 f0_q_1.2 ef_2
  have hnf_q_1 : f q_1 = none := nf_of hex Fq hlt_q_1
  have ltq_q_1 : q < q_1 := hlt_q_1 _ _ Fq
  have hex : ∀ (a : Nat) (e : va_E), a ≠ q → f a = some e → f_2 a = some e := fun a e h1 h2 => upk (hex a e h1 h2) ef_2 (Nat.ne_of_lt (hlt_q_1 _ _ (hex a e h1 h2)))
  have F_q_1 : f_2 q_1 = some (.inl (gk G 1, 8, .inr (.inl (fun _ => 0)))) := by rw [ef_2]; exact va_up_self _ _ _
  refine m_putF (ci := 2) (v := .ref q_1) (C := RX2) (T := TX2) (N := 5) hx hb hC hH hts in_X2_init_X2 tyX2 tyX2_ok nmX2 hown F_3 rfl 1 (by decide) (hts (.fieldLink RX2 9 "LazyState$Body" "cells" "[J") (by decide +kernel)) rfl hnm rfl rfl rfl (Nat.le_of_ble_eq_true rfl) dX2_init_9 (fun H locs hH => ?_)
  have hH : mH G s (va_up f_2 q (some (.inr (2, [.int 0, .ref q_1, .null, .int 0, .null])))) H locs := hH
  obtain ⟨f_4, ef_4⟩ : ∃ zz_ : mF, zz_ = va_up f_2 q (some (.inr (2, [.int 0, .ref q_1, .null, .int 0, .null]))) := ⟨_, rfl⟩
  rw [← ef_4] at hH
  have F_5 : f_4 q = some (.inr (2, [.int 0, .ref q_1, .null, .int 0, .null])) := by rw [ef_4]; exact va_up_self _ _ _
  have hI : IC G k rho n T z st f_4 := hI.setU h0 hk0 ef_4
  have hex : ∀ (a : Nat) (e : va_E), a ≠ q → f a = some e → f_4 a = some e := fun a e h1 h2 => upk (hex a e h1 h2) ef_4 h1
  have Fq_1_f_4 := upk F_q_1 ef_4 (Nat.ne_of_gt ltq_q_1)
  refine lv_aload_n hx hb dX2_init_12 rfl (lv_at hl 0 rfl) ?_
  refine lv_bipush (v := 16) hx hb dX2_init_13 (by decide) ?_
  refine m_newa (atype := .int) (cA := gk G 0) (N' := 16) (a0 := (16, .inl (fun _ => 0))) hx hb hC hH (hts (.arrayClass .int) (by decide +kernel)) (hC.2.1.1.2 0 _ rfl).2 rfl (by decide) (by decide) (by decide) (by show _ ≤ 2; omega) (by show _ ≤ 24; omega) dX2_init_15 (fun q_6 H hlt_q_6 hge_q_6 hno_q_6 hH => ?_)
  obtain ⟨f_7, ef_7⟩ : ∃ zz_ : mF, zz_ = va_up f_4 q_6 (some (.inl (gk G 0, 16, .inl (fun _ => 0)))) := ⟨_, rfl⟩
  rw [← ef_7] at hH
  have f0_q_6 := hI.fresh hno_q_6
  have F_8 := upk F_5 ef_7 (Nat.ne_of_lt (hlt_q_6 _ _ F_5))
  have hI : IC G k rho n T z st f_7 := hI.setU f0_q_6.1 f0_q_6.2 ef_7
  have hnf_q_6 : f q_6 = none := nf_of hex F_5 hlt_q_6
  have ltq_q_6 : q < q_6 := hlt_q_6 _ _ F_5
  have lt_q_6_q_1 : q_1 < q_6 := hlt_q_6 _ _ Fq_1_f_4
  have Fq_1_f_7 := upk Fq_1_f_4 ef_7 (Nat.ne_of_lt lt_q_6_q_1)
  have hex : ∀ (a : Nat) (e : va_E), a ≠ q → f a = some e → f_7 a = some e := fun a e h1 h2 => upk (hex a e h1 h2) ef_7 (Nat.ne_of_lt (hlt_q_6 _ _ (hex a e h1 h2)))
  have F_q_6 : f_7 q_6 = some (.inl (gk G 0, 16, .inl (fun _ => 0))) := by rw [ef_7]; exact va_up_self _ _ _
  refine m_putF (ci := 2) (v := .ref q_6) (C := RX2) (T := TX2) (N := 5) hx hb hC hH hts in_X2_init_X2 tyX2 tyX2_ok nmX2 hown F_8 rfl 2 (by decide) (hts (.fieldLink RX2 15 "LazyState$Body" "items" "[I") (by decide +kernel)) rfl hnm rfl rfl rfl (Nat.le_of_ble_eq_true rfl) dX2_init_17 (fun H locs hH => ?_)
  have hH : mH G s (va_up f_7 q (some (.inr (2, [.int 0, .ref q_1, .ref q_6, .int 0, .null])))) H locs := hH
  obtain ⟨f_9, ef_9⟩ : ∃ zz_ : mF, zz_ = va_up f_7 q (some (.inr (2, [.int 0, .ref q_1, .ref q_6, .int 0, .null]))) := ⟨_, rfl⟩
  rw [← ef_9] at hH
  have F_10 : f_9 q = some (.inr (2, [.int 0, .ref q_1, .ref q_6, .int 0, .null])) := by rw [ef_9]; exact va_up_self _ _ _
  have hI : IC G k rho n T z st f_9 := hI.setU h0 hk0 ef_9
  have hex : ∀ (a : Nat) (e : va_E), a ≠ q → f a = some e → f_9 a = some e := fun a e h1 h2 => upk (hex a e h1 h2) ef_9 h1
  have Fq_1_f_9 := upk Fq_1_f_7 ef_9 (Nat.ne_of_gt ltq_q_1)
  have Fq_6_f_9 := upk F_q_6 ef_9 (Nat.ne_of_gt ltq_q_6)
  refine lv_aload_n hx hb dX2_init_20 rfl (lv_at hl 0 rfl) ?_
  refine lv_iload_n hx hb dX2_init_21 rfl (lv_at hl 1 rfl) ?_
  refine m_putF (ci := 2) (v := .int ty) (C := RX2) (T := TX2) (N := 5) hx hb hC hH hts in_X2_init_X2 tyX2 tyX2_ok nmX2 hown F_10 rfl 0 (by decide) (hts (.fieldLink RX2 19 "LazyState$Body" "type" "I") (by decide +kernel)) rfl hnm rfl rfl rfl (Nat.le_of_ble_eq_true rfl) dX2_init_22 (fun H locs hH => ?_)
  have hH : mH G s (va_up f_9 q (some (.inr (2, [.int ty, .ref q_1, .ref q_6, .int 0, .null])))) H locs := hH
  obtain ⟨f_11, ef_11⟩ : ∃ zz_ : mF, zz_ = va_up f_9 q (some (.inr (2, [.int ty, .ref q_1, .ref q_6, .int 0, .null]))) := ⟨_, rfl⟩
  rw [← ef_11] at hH
  have F_12 : f_11 q = some (.inr (2, [.int ty, .ref q_1, .ref q_6, .int 0, .null])) := by rw [ef_11]; exact va_up_self _ _ _
  have hI : IC G k rho n T z st f_11 := hI.setU h0 hk0 ef_11
  have hex : ∀ (a : Nat) (e : va_E), a ≠ q → f a = some e → f_11 a = some e := fun a e h1 h2 => upk (hex a e h1 h2) ef_11 h1
  have Fq_1_f_11 := upk Fq_1_f_9 ef_11 (Nat.ne_of_gt ltq_q_1)
  have Fq_6_f_11 := upk Fq_6_f_9 ef_11 (Nat.ne_of_gt ltq_q_6)
  have ltqc_ := ltq_q_1
  have ltci_ := lt_q_6_q_1
  have hnfc_ := hnf_q_1
  have h0c_ := f0_q_1.1
  have hkc_ := f0_q_1.2
  have h0i_ := f0_q_6.1
  have hki_ := f0_q_6.2
  have gz_ : ∀ j : Nat, (j : Int) < 0 → (sortF (8 * t + j) = 2 ∨ sortF (8 * t + j) = 3 → (fun _ => 0 : Nat → Int64) j = -3) := fun j hj => by omega
  refine lv_iconst (v := 0) hx hb dX2_init_25 (by decide) ?_
  refine lv_istore_n (lv' := [(2, .int 0), (0, .ref q), (1, .int ty)]) hx hb dX2_init_26 rfl hl (by decide) rfl (fun ls hl => ?_)
  have loop_27 : ∀ (fuel_ : Nat) (j2 : Int32) (fL : mF) (gL : Nat → Int64) (h0_ : 0 ≤ j2.toInt) (h1_ : j2.toInt ≤ 8) (hI : IC G k rho n T z st fL) (FqL : fL q = some (.inr (2, [.int ty, .ref q_1, .ref q_6, .int 0, .null]))) (FcL : fL q_1 = some (.inl (gk G 1, 8, .inr (.inl gL)))) (FiL : fL q_6 = some (.inl (gk G 0, 16, .inl (fun _ => 0)))) (hexL : ∀ (a : Nat) (e : va_E), a ≠ q → f a = some e → fL a = some e) (hall : ∀ j : Nat, (j : Int) < j2.toInt → (sortF (8 * t + j) = 2 ∨ sortF (8 * t + j) = 3 → gL j = -3)) (_ : ((8 : Int) - j2.toInt).toNat < fuel_) (H : Heap) (locs : List Loc) (ls : Array Slot) (_ : mH G s fL H locs) (_ : lv_has ls 4 [(0, .ref q), (1, .int ty), (2, .int j2)]), W p l e ({ frames := 1, cells := 2, slots := 24, locals := 12 } : Room) s m ([.ref q, .int ty] : List Value).toArray below meth c H locs (0 + 1 + 1) (0 + 8 + 16) (MQ below (va_Qv (fun (u : mS) => ∃ ca ia : Nat, u.1 = va_up (va_up (va_up rho ca (2, t)) ia (3, 0)) q (1, t) ∧ IC G k u.1 n T z st u.2 ∧ f ca = none ∧ f ia = none ∧ (∀ (a : Nat) (e : va_E), a ≠ q → f a = some e → u.2 a = some e) ∧ u.2 q = some (.inr (2, [.int ty, .ref ca, .ref ia, .int 0, .null]))) (fun (u : mS) t => mW G u.2 t) (mA G)) ([.ref q, .int ty] : List Value).toArray s 2 24 (mA G)) (F0 m 27 ls []) := by
    intro N_27
    induction N_27 with
    | zero => intro j2 fL gL h0_ h1_ hI FqL FcL FiL hexL hall hN; omega
    | succ N_27 ih_27 =>
      intro j2 fL gL h0_ h1_ hI FqL FcL FiL hexL hall hN_27 H locs ls hH hl
      refine lv_iload_n hx hb dX2_init_27 rfl (lv_at hl 2 rfl) ?_
      refine lv_bipush (v := 8) hx hb dX2_init_28 (by decide) ?_
      refine lv_icmp_ge (tgt := 73) hx hb dX2_init_30 (by decide) (fun c_13 => ?_) (fun c_13 => ?_)
      · skip
        have ic_13 : (8 : Int) ≤ j2.toInt := ic_le kI_8 rfl c_13
        exact m_vret hx hb hr hlk hC hH (va_up (va_up (va_up rho q_1 (2, t)) q_6 (3, 0)) q (1, t)) ⟨q_1, q_6, rfl, hI.body (ic_inj hty (by omega)) FqL FcL FiL (pCl_new (fun j hj => hall j (by omega))) h0 h0c_ h0i_ hk0 hkc_ hki_, hnf_q_1, hnf_q_6, hexL, FqL⟩ (by omega) (by omega) dX2_init_73
      · skip
        have ic_13 : (8 : Int) > j2.toInt := ic_nle kI_8 rfl c_13
        refine m_gets hx hb hC.2.2.1 hH hown (hts (.fieldLink RX2 23 "LazyState$Body" "SORTS" "[I") (by decide +kernel)) dX2_init_33 ?_
        refine lv_iload_n hx hb dX2_init_36 rfl (lv_at hl 1 rfl) ?_
        refine lv_bipush (v := 8) hx hb dX2_init_37 (by decide) ?_
        refine lv_imul hx hb dX2_init_39 ?_
        refine lv_topi (fun x_14 ex_14 => ?_)
        have ix_14 : x_14.toInt = ty.toInt * 8 := ic_mul ex_14 rfl kI_8 (by omega) (by omega)
        refine lv_iload_n hx hb dX2_init_40 rfl (lv_at hl 2 rfl) ?_
        refine lv_iadd hx hb dX2_init_41 ?_
        refine lv_topi (fun x_15 ex_15 => ?_)
        have ix_15 : x_15.toInt = x_14.toInt + j2.toInt := ic_add ex_15 rfl rfl (by omega) (by omega)
        refine m_ti hx hb hC.2.2.2.1 hH (vp_in_iff.mpr ⟨by omega, by omega⟩) dX2_init_42 ?_
        refine lv_topi (fun x_16 ex_16 => ?_)
        have sq_ : x_16.toInt = (sortF (8 * t + j2.toNatClampNeg)).toInt := by rw [ex_16, show x_15.toNatClampNeg = 8 * t + j2.toNatClampNeg from by have := ic_clN (rfl : x_15.toInt = _) (by omega); have := ic_clN (rfl : j2.toInt = _) (by omega); omega]
        refine lv_istore_n (lv' := [(3, .int x_16), (0, .ref q), (1, .int ty), (2, .int j2)]) hx hb dX2_init_43 rfl hl (by decide) rfl (fun ls hl => ?_)
        refine lv_aload_n hx hb dX2_init_44 rfl (lv_at hl 1 rfl) ?_
        refine m_get (ci := 2) (v := .ref q_1) (C := RX2) (T := TX2) (N := 5) hx hb hC hH hts in_X2_init_X2 hown FqL rfl 1 (by decide) (hts (.fieldLink RX2 9 "LazyState$Body" "cells" "[J") (by decide +kernel)) rfl dX2_init_45 ?_
        refine lv_iload_n hx hb dX2_init_48 rfl (lv_at hl 3 rfl) ?_
        refine lv_iload_n hx hb dX2_init_49 rfl (lv_at hl 0 rfl) ?_
        refine lv_iconst (v := 2) hx hb dX2_init_50 (by decide) ?_
        refine lv_icmp_eq (tgt := 59) hx hb dX2_init_51 (by decide) (fun c_17 => ?_) (fun c_17 => ?_)
        · skip
          have ic_17 : (x_16.toInt : Int) = 2 := ic_eq rfl kI_2 c_17
          refine lv_ldc2 (v := (-3)) hx hb hown (hts (.constantLong RX2 26 (-3)) (by decide +kernel)) dX2_init_59 ?_
          refine lv_goto (tgt := 66) hx hb dX2_init_62 (by decide) ?_
          refine m_last hx hb hC hH FcL (vp_in_iff.mpr ⟨by omega, by omega⟩) dX2_init_66 (fun H locs hH => ?_)
          obtain ⟨f_18, ef_18⟩ : ∃ zz_ : mF, zz_ = va_up fL q_1 (some (.inl (gk G 1, 8, .inr (.inl (vp_updL gL j2.toNatClampNeg (-3)))))) := ⟨_, rfl⟩
          rw [← ef_18] at hH
          have F_19 : f_18 q_1 = some (.inl (gk G 1, 8, .inr (.inl (vp_updL gL j2.toNatClampNeg (-3))))) := by rw [ef_18]; exact va_up_self _ _ _
          have hI : IC G k rho n T z st f_18 := hI.setU h0c_ hkc_ ef_18
          have FqN_ := upk FqL ef_18 (Nat.ne_of_lt ltqc_)
          have FiN_ := upk FiL ef_18 (Nat.ne_of_gt ltci_)
          have hex : ∀ (a : Nat) (e : va_E), a ≠ q → f a = some e → f_18 a = some e := fun a e h1 h2 => upk (hexL a e h1 h2) ef_18 (fun z_ => by rw [z_, hnfc_] at h2; cases h2)
          have all_ : ∀ j : Nat, (j : Int) < j2.toInt + 1 → (sortF (8 * t + j) = 2 ∨ sortF (8 * t + j) = 3 → (vp_updL gL j2.toNatClampNeg (-3)) j = -3) := cl_step hall (ic_clN (rfl : j2.toInt = _) (by omega)) (fun hs_ => by rfl)
          obtain ⟨x_20, ex_20⟩ : ∃ y : Int32, y = j2 + 1 := ⟨_, rfl⟩
          have ix_20 : x_20.toInt = j2.toInt + 1 := ic_add ex_20 rfl kI_1 (by omega) (by omega)
          refine lv_iinc (v := x_20) (lv' := [(2, .int x_20), (3, .int x_16), (0, .ref q), (1, .int ty)]) hx hb dX2_init_67 hl (k := 3) rfl (by rw [ex_20]; rfl) (by decide) rfl (fun ls hl => ?_)
          refine lv_goto (tgt := 27) hx hb dX2_init_70 (by decide) ?_
          exact ih_27 x_20 f_18 (vp_updL gL j2.toNatClampNeg (-3)) (by omega) (by omega) hI FqN_ F_19 FiN_ hex (fun j hj => all_ j (by omega)) (by omega) _ _ _ hH (lv_sub hl [2, 3, 0] rfl)
        · skip
          have ic_17 : (x_16.toInt : Int) ≠ 2 := ic_ne rfl kI_2 c_17
          refine lv_iload_n hx hb dX2_init_54 rfl (lv_at hl 0 rfl) ?_
          refine lv_iconst (v := 3) hx hb dX2_init_55 (by decide) ?_
          refine lv_icmp_ne (tgt := 65) hx hb dX2_init_56 (by decide) (fun c_21 => ?_) (fun c_21 => ?_)
          · skip
            have ic_21 : (x_16.toInt : Int) ≠ 3 := ic_ne rfl kI_3 c_21
            refine lv_lconst (v := 0) hx hb dX2_init_65 (by decide) ?_
            refine m_last hx hb hC hH FcL (vp_in_iff.mpr ⟨by omega, by omega⟩) dX2_init_66 (fun H locs hH => ?_)
            obtain ⟨f_22, ef_22⟩ : ∃ zz_ : mF, zz_ = va_up fL q_1 (some (.inl (gk G 1, 8, .inr (.inl (vp_updL gL j2.toNatClampNeg 0))))) := ⟨_, rfl⟩
            rw [← ef_22] at hH
            have F_23 : f_22 q_1 = some (.inl (gk G 1, 8, .inr (.inl (vp_updL gL j2.toNatClampNeg 0)))) := by rw [ef_22]; exact va_up_self _ _ _
            have hI : IC G k rho n T z st f_22 := hI.setU h0c_ hkc_ ef_22
            have FqN_ := upk FqL ef_22 (Nat.ne_of_lt ltqc_)
            have FiN_ := upk FiL ef_22 (Nat.ne_of_gt ltci_)
            have hex : ∀ (a : Nat) (e : va_E), a ≠ q → f a = some e → f_22 a = some e := fun a e h1 h2 => upk (hexL a e h1 h2) ef_22 (fun z_ => by rw [z_, hnfc_] at h2; cases h2)
            have all_ : ∀ j : Nat, (j : Int) < j2.toInt + 1 → (sortF (8 * t + j) = 2 ∨ sortF (8 * t + j) = 3 → (vp_updL gL j2.toNatClampNeg 0) j = -3) := cl_step hall (ic_clN (rfl : j2.toInt = _) (by omega)) (fun hs_ => by rcases hs_ with q_ | q_ <;> (rw [q_] at sq_; have := kI_2; have := kI_3; omega))
            obtain ⟨x_24, ex_24⟩ : ∃ y : Int32, y = j2 + 1 := ⟨_, rfl⟩
            have ix_24 : x_24.toInt = j2.toInt + 1 := ic_add ex_24 rfl kI_1 (by omega) (by omega)
            refine lv_iinc (v := x_24) (lv' := [(2, .int x_24), (3, .int x_16), (0, .ref q), (1, .int ty)]) hx hb dX2_init_67 hl (k := 3) rfl (by rw [ex_24]; rfl) (by decide) rfl (fun ls hl => ?_)
            refine lv_goto (tgt := 27) hx hb dX2_init_70 (by decide) ?_
            exact ih_27 x_24 f_22 (vp_updL gL j2.toNatClampNeg 0) (by omega) (by omega) hI FqN_ F_23 FiN_ hex (fun j hj => all_ j (by omega)) (by omega) _ _ _ hH (lv_sub hl [2, 3, 0] rfl)
          · skip
            have ic_21 : (x_16.toInt : Int) = 3 := ic_eq rfl kI_3 c_21
            refine lv_ldc2 (v := (-3)) hx hb hown (hts (.constantLong RX2 26 (-3)) (by decide +kernel)) dX2_init_59 ?_
            refine lv_goto (tgt := 66) hx hb dX2_init_62 (by decide) ?_
            refine m_last hx hb hC hH FcL (vp_in_iff.mpr ⟨by omega, by omega⟩) dX2_init_66 (fun H locs hH => ?_)
            obtain ⟨f_25, ef_25⟩ : ∃ zz_ : mF, zz_ = va_up fL q_1 (some (.inl (gk G 1, 8, .inr (.inl (vp_updL gL j2.toNatClampNeg (-3)))))) := ⟨_, rfl⟩
            rw [← ef_25] at hH
            have F_26 : f_25 q_1 = some (.inl (gk G 1, 8, .inr (.inl (vp_updL gL j2.toNatClampNeg (-3))))) := by rw [ef_25]; exact va_up_self _ _ _
            have hI : IC G k rho n T z st f_25 := hI.setU h0c_ hkc_ ef_25
            have FqN_ := upk FqL ef_25 (Nat.ne_of_lt ltqc_)
            have FiN_ := upk FiL ef_25 (Nat.ne_of_gt ltci_)
            have hex : ∀ (a : Nat) (e : va_E), a ≠ q → f a = some e → f_25 a = some e := fun a e h1 h2 => upk (hexL a e h1 h2) ef_25 (fun z_ => by rw [z_, hnfc_] at h2; cases h2)
            have all_ : ∀ j : Nat, (j : Int) < j2.toInt + 1 → (sortF (8 * t + j) = 2 ∨ sortF (8 * t + j) = 3 → (vp_updL gL j2.toNatClampNeg (-3)) j = -3) := cl_step hall (ic_clN (rfl : j2.toInt = _) (by omega)) (fun hs_ => by rfl)
            obtain ⟨x_27, ex_27⟩ : ∃ y : Int32, y = j2 + 1 := ⟨_, rfl⟩
            have ix_27 : x_27.toInt = j2.toInt + 1 := ic_add ex_27 rfl kI_1 (by omega) (by omega)
            refine lv_iinc (v := x_27) (lv' := [(2, .int x_27), (3, .int x_16), (0, .ref q), (1, .int ty)]) hx hb dX2_init_67 hl (k := 3) rfl (by rw [ex_27]; rfl) (by decide) rfl (fun ls hl => ?_)
            refine lv_goto (tgt := 27) hx hb dX2_init_70 (by decide) ?_
            exact ih_27 x_27 f_25 (vp_updL gL j2.toNatClampNeg (-3)) (by omega) (by omega) hI FqN_ F_26 FiN_ hex (fun j hj => all_ j (by omega)) (by omega) _ _ _ hH (lv_sub hl [2, 3, 0] rfl)
  exact loop_27 (((8 : Int) - 0).toNat + 1) 0 f_11 (fun _ => 0) (by have := kI_0; omega) (by have := kI_0; omega) hI F_12 Fq_1_f_11 Fq_6_f_11 hex (fun j hj => gz_ j (by have := kI_0; omega)) (by have := kI_0; omega) _ _ _ hH (lv_sub hl [1, 2, 0] rfl)
