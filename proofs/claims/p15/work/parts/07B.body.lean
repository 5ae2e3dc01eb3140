set_option maxHeartbeats 4000000 in
set_option maxRecDepth 100000 in
theorem c_X2_asOf (l : Launch) (G : mG) (k : Nat → Nat) (own : tR) (n : Nat) (z : Nat → Nat) (D : tD) (f : mF) (hM : CM G k own n z D f) (o t hh : Nat) (ver : Nat → tB) (L : List Nat) (q : Nat) (hc : chn (BD D) o t ver hh (q :: L)) (ht : t < 3) (hh40 : hh ≤ 40) (x_ : Int32) (hx_ : 0 ≤ x_.toInt ∧ x_.toInt ≤ hh) : Met l yX2_asOf wsX2_asOf ({ frames := 0, cells := 0, slots := 0, locals := 0 }) (va_Pc [.ref q, .int x_] (mW G f)) (va_Qq (fun (r : Option Nat) (u : mS) => u.2 = f ∧ ∃ a b, r = some a ∧ BD D a = some b ∧ yB b = t ∧ eqB t (cB b) (ver x_.toNatClampNeg)) (fun (u : mS) t => mW G u.2 t) (mA G)) 0 0 (mA G) := by
  refine mMet [.ref q, .int x_] (cc := cX2_asOf) (maxL := 3) (ret := (some (.object "LazyState$Body"))) (by decide) rfl (Nat.le_of_ble_eq_true rfl) ?_
  intro p e s m below meth c ls hx hb hr hml hts hown hlk hnm hC hH hl
  have hl : lv_has ls 3 [(0, .ref q), (1, .int x_)] := hl
  have cl_x_ := ic_clN (rfl : x_.toInt = _) (by omega)
  refine lv_aload_n hx hb dX2_asOf_0 rfl (lv_at hl 0 rfl) ?_
  refine lv_astore_n (lv' := [(2, .ref q), (0, .ref q), (1, .int x_)]) hx hb dX2_asOf_1 rfl hl (by decide) rfl (fun ls hl => ?_)
  have loop_2 : ∀ (fuel_ : Nat) (v2 : Nat) (LL : List Nat) (hL : Nat) (hcL : chn (BD D) o t ver hL (v2 :: LL)) (hhL : hL ≤ 40) (hxL : x_.toInt ≤ (hL : Int)) (_ : LL.length < fuel_) (H : Heap) (locs : List Loc) (ls : Array Slot) (_ : mH G s f H locs) (_ : lv_has ls 3 [(0, .ref q), (1, .int x_), (2, .ref v2)]), W p l e ({ frames := 0, cells := 0, slots := 0, locals := 0 } : Room) s m ([.ref q, .int x_] : List Value).toArray below meth c H locs 0 0 (MQ below (va_Qq (fun (r : Option Nat) (u : mS) => u.2 = f ∧ ∃ a b, r = some a ∧ BD D a = some b ∧ yB b = t ∧ eqB t (cB b) (ver x_.toNatClampNeg)) (fun (u : mS) t => mW G u.2 t) (mA G)) ([.ref q, .int x_] : List Value).toArray s 0 0 (mA G)) (F0 m 2 ls []) := by
    intro N_2
    induction N_2 with
    | zero => intro v2 LL hL hcL hhL hxL hN; omega
    | succ N_2 ih_2 =>
      intro v2 LL hL hcL hhL hxL hN_2 H locs ls hH hl
      refine lv_aload_n hx hb dX2_asOf_2 rfl (lv_at hl 2 rfl) ?_
      rcases LL with _ | ⟨a2_, LM_⟩
      · skip
        obtain ⟨b0_, c1_, c2_, c3_, c4_, c5_⟩ := hcL
        have F_1 : f v2 = some (.inr (2, [.int (nI (yB b0_)), .ref (caB b0_), .ref (iaB b0_), .int (siB b0_), va_rf (bfB b0_)])) := (hM.bf c1_).1
        have tI_1 : (nI (yB b0_)).toInt = ((yB b0_ : Nat) : Int) := nI_toInt (by rw [c3_]; omega)
        refine m_get (ci := 2) (v := va_rf (bfB b0_)) (C := RX2) (T := TX2) (N := 5) hx hb hC hH hts in_X2_asOf_X2 hown F_1 rfl 4 (by decide) (hts (.fieldLink RX2 46 "LazyState$Body" "before" "LLazyState$Body;") (by decide +kernel)) rfl dX2_asOf_3 ?_
        rw [c4_]
        refine lv_ifnullN (tgt := 25) hx hb dX2_asOf_6 (by decide) ?_
        refine lv_aload_n hx hb dX2_asOf_25 rfl (lv_at hl 2 rfl) ?_
        exact m_aret (v := some v2) hx hb hr hlk hC hH (fun _ => (0, 0)) ⟨rfl, v2, b0_, rfl, c1_, c3_, c5_ x_.toNatClampNeg (by omega)⟩ (Nat.le_of_ble_eq_true rfl) (Nat.le_of_ble_eq_true rfl) dX2_asOf_26
      · skip
        obtain ⟨b0_, s_, c1_, c2_, c3_, c4_, c5_, c6_, c7_, c8_, c9_⟩ := hcL
        have ll_ : (a2_ :: LM_).length = LM_.length + 1 := rfl
        have si_ : (siB b0_).toInt = (s_ : Int) := by rw [c5_]; exact nI_toInt (by omega)
        have F_2 : f v2 = some (.inr (2, [.int (nI (yB b0_)), .ref (caB b0_), .ref (iaB b0_), .int (siB b0_), va_rf (bfB b0_)])) := (hM.bf c1_).1
        have tI_2 : (nI (yB b0_)).toInt = ((yB b0_ : Nat) : Int) := nI_toInt (by rw [c3_]; omega)
        refine m_get (ci := 2) (v := va_rf (bfB b0_)) (C := RX2) (T := TX2) (N := 5) hx hb hC hH hts in_X2_asOf_X2 hown F_2 rfl 4 (by decide) (hts (.fieldLink RX2 46 "LazyState$Body" "before" "LLazyState$Body;") (by decide +kernel)) rfl dX2_asOf_3 ?_
        rw [c4_]
        refine lv_ifnull hx hb dX2_asOf_6 ?_
        refine lv_aload_n hx hb dX2_asOf_9 rfl (lv_at hl 2 rfl) ?_
        refine m_get (ci := 2) (v := .int (siB b0_)) (C := RX2) (T := TX2) (N := 5) hx hb hC hH hts in_X2_asOf_X2 hown F_2 rfl 3 (by decide) (hts (.fieldLink RX2 50 "LazyState$Body" "since" "I") (by decide +kernel)) rfl dX2_asOf_10 ?_
        refine lv_iload_n hx hb dX2_asOf_13 rfl (lv_at hl 1 rfl) ?_
        refine lv_icmp_le (tgt := 25) hx hb dX2_asOf_14 (by decide) (fun c_3 => ?_) (fun c_3 => ?_)
        · skip
          have ic_3 : ((siB b0_).toInt : Int) ≤ x_.toInt := ic_le rfl rfl c_3
          refine lv_aload_n hx hb dX2_asOf_25 rfl (lv_at hl 2 rfl) ?_
          exact m_aret (v := some v2) hx hb hr hlk hC hH (fun _ => (0, 0)) ⟨rfl, v2, b0_, rfl, c1_, c3_, c8_ x_.toNatClampNeg (by omega) (by omega)⟩ (Nat.le_of_ble_eq_true rfl) (Nat.le_of_ble_eq_true rfl) dX2_asOf_26
        · skip
          have ic_3 : ((siB b0_).toInt : Int) > x_.toInt := ic_nle rfl rfl c_3
          refine lv_aload_n hx hb dX2_asOf_17 rfl (lv_at hl 2 rfl) ?_
          refine m_get (ci := 2) (v := va_rf (bfB b0_)) (C := RX2) (T := TX2) (N := 5) hx hb hC hH hts in_X2_asOf_X2 hown F_2 rfl 4 (by decide) (hts (.fieldLink RX2 46 "LazyState$Body" "before" "LLazyState$Body;") (by decide +kernel)) rfl dX2_asOf_18 ?_
          rw [c4_]
          refine lv_astore_n (lv' := [(2, .ref a2_), (0, .ref q), (1, .int x_)]) hx hb dX2_asOf_21 rfl hl (by decide) rfl (fun ls hl => ?_)
          refine lv_goto (tgt := 2) hx hb dX2_asOf_22 (by decide) ?_
          exact ih_2 a2_ LM_ (s_ - 1) c9_ (by omega) (by omega) (by omega) _ _ _ hH (lv_sub hl [1, 2, 0] rfl)
  exact loop_2 (L.length + 1) q L hh hc (by omega) (by omega) (by omega) _ _ _ hH (lv_sub hl [1, 2, 0] rfl)
set_option maxHeartbeats 4000000 in
set_option maxRecDepth 100000 in
theorem c_X2_init (l : Launch) (G : mG) (f : mF) (q t : Nat) (Fq : f q = some (.inr (2, [.int 0, .null, .null, .int 0, .null]))) (ht : t < 3) (ty : Int32) (hty : ty.toInt = t) : Met l yX2_init wsX2_init ({ frames := 1, cells := 2, slots := 24, locals := 12 }) (va_Pc [.ref q, .int ty] (mW G f)) (va_Qv (fun (u : mS) => ∃ (ca ia : Nat) (g : Nat → Int64), u.2 q = some (.inr (2, [.int ty, .ref ca, .ref ia, .int 0, .null])) ∧ u.2 ca = some (.inl (gk G 1, 8, .inr (.inl g))) ∧ u.2 ia = some (.inl (gk G 0, 16, .inl (fun _ => 0))) ∧ (∀ j, j < 8 → g j = (fstB t).1 j) ∧ f ca = none ∧ f ia = none ∧ q < ca ∧ ca < ia ∧ ∀ (a : Nat) (e : va_E), a ≠ q → f a = some e → u.2 a = some e) (fun (u : mS) t => mW G u.2 t) (mA G)) 2 24 (mA G) := by
  refine mMet [.ref q, .int ty] (cc := cX2_init) (maxL := 4) (ret := none) (by decide) rfl (Nat.le_of_ble_eq_true rfl) ?_
  intro p e s m below meth c ls hx hb hr hml hts hown hlk hnm hC hH hl
  have hl : lv_has ls 4 [(0, .ref q), (1, .int ty)] := hl
  have hex : ∀ (a : Nat) (e : va_E), a ≠ q → f a = some e → f a = some e := fun _ _ _ h_ => h_
  refine lv_aload_n hx hb dX2_init_0 rfl (lv_at hl 0 rfl) ?_
  refine W.objInit hx hb hown (hts (.methodLink RX2 3 objectInit) (by decide +kernel)) (hts (.instanceMethod objectInit) (by decide +kernel)) (hts (.code objectInit ⟨#[0xb1]⟩ 1 none) (by decide +kernel)) rfl (hl.1.trans hml.symm) rfl dX2_init_1 (Nat.le_of_ble_eq_true rfl) (Nat.le_of_ble_eq_true rfl) ?_
  refine lv_aload_n hx hb dX2_init_4 rfl (lv_at hl 0 rfl) ?_
  refine lv_bipush (v := 8) hx hb dX2_init_5 (by decide) ?_
  refine m_newa (atype := .long) (cA := gk G 1) (N' := 8) (a0 := (8, .inr (.inl (fun _ => 0)))) hx hb hC hH (hts (.arrayClass .long) (by decide +kernel)) (hC.2.1.1.2 1 _ rfl).2 rfl (by decide) (by decide) (by decide) (by show _ ≤ 2; omega) (by show _ ≤ 24; omega) dX2_init_7 (fun q_1 H hlt_q_1 hge_q_1 hno_q_1 hH => ?_)
  obtain ⟨f_2, ef_2⟩ : ∃ zz_ : mF, zz_ = va_up f q_1 (some (.inl (gk G 1, 8, .inr (.inl (fun _ => 0))))) := ⟨_, rfl⟩
  rw [← ef_2] at hH
  have hnf_q_1 : f q_1 = none := nf_of hex Fq hlt_q_1
  have ltq_q_1 : q < q_1 := hlt_q_1 _ _ Fq
  have hex : ∀ (a : Nat) (e : va_E), a ≠ q → f a = some e → f_2 a = some e := fun a e h1 h2 => upk (hex a e h1 h2) ef_2 (Nat.ne_of_lt (hlt_q_1 _ _ (hex a e h1 h2)))
  have Fz_q_1 := upk Fq ef_2 (Nat.ne_of_lt ltq_q_1)
  have F_q_1 : f_2 q_1 = some (.inl (gk G 1, 8, .inr (.inl (fun _ => 0)))) := by rw [ef_2]; exact va_up_self _ _ _
  refine m_putF (ci := 2) (v := .ref q_1) (C := RX2) (T := TX2) (N := 5) hx hb hC hH hts in_X2_init_X2 tyX2 tyX2_ok nmX2 hown Fz_q_1 rfl 1 (by decide) (hts (.fieldLink RX2 9 "LazyState$Body" "cells" "[J") (by decide +kernel)) rfl hnm rfl rfl rfl (Nat.le_of_ble_eq_true rfl) dX2_init_9 (fun H locs hH => ?_)
  have hH : mH G s (va_up f_2 q (some (.inr (2, [.int 0, .ref q_1, .null, .int 0, .null])))) H locs := hH
  obtain ⟨f_3, ef_3⟩ : ∃ zz_ : mF, zz_ = va_up f_2 q (some (.inr (2, [.int 0, .ref q_1, .null, .int 0, .null]))) := ⟨_, rfl⟩
  rw [← ef_3] at hH
  have F_4 : f_3 q = some (.inr (2, [.int 0, .ref q_1, .null, .int 0, .null])) := by rw [ef_3]; exact va_up_self _ _ _
  have hex : ∀ (a : Nat) (e : va_E), a ≠ q → f a = some e → f_3 a = some e := fun a e h1 h2 => upk (hex a e h1 h2) ef_3 h1
  have Fq_1_f_3 := upk F_q_1 ef_3 (Nat.ne_of_gt ltq_q_1)
  refine lv_aload_n hx hb dX2_init_12 rfl (lv_at hl 0 rfl) ?_
  refine lv_bipush (v := 16) hx hb dX2_init_13 (by decide) ?_
  refine m_newa (atype := .int) (cA := gk G 0) (N' := 16) (a0 := (16, .inl (fun _ => 0))) hx hb hC hH (hts (.arrayClass .int) (by decide +kernel)) (hC.2.1.1.2 0 _ rfl).2 rfl (by decide) (by decide) (by decide) (by show _ ≤ 2; omega) (by show _ ≤ 24; omega) dX2_init_15 (fun q_5 H hlt_q_5 hge_q_5 hno_q_5 hH => ?_)
  obtain ⟨f_6, ef_6⟩ : ∃ zz_ : mF, zz_ = va_up f_3 q_5 (some (.inl (gk G 0, 16, .inl (fun _ => 0)))) := ⟨_, rfl⟩
  rw [← ef_6] at hH
  have hnf_q_5 : f q_5 = none := nf_of hex F_4 hlt_q_5
  have ltq_q_5 : q < q_5 := hlt_q_5 _ _ F_4
  have lt_q_5_q_1 : q_1 < q_5 := hlt_q_5 _ _ Fq_1_f_3
  have Fq_1_f_6 := upk Fq_1_f_3 ef_6 (Nat.ne_of_lt lt_q_5_q_1)
  have hex : ∀ (a : Nat) (e : va_E), a ≠ q → f a = some e → f_6 a = some e := fun a e h1 h2 => upk (hex a e h1 h2) ef_6 (Nat.ne_of_lt (hlt_q_5 _ _ (hex a e h1 h2)))
  have Fz_q_5 := upk F_4 ef_6 (Nat.ne_of_lt ltq_q_5)
  have F_q_5 : f_6 q_5 = some (.inl (gk G 0, 16, .inl (fun _ => 0))) := by rw [ef_6]; exact va_up_self _ _ _
  refine m_putF (ci := 2) (v := .ref q_5) (C := RX2) (T := TX2) (N := 5) hx hb hC hH hts in_X2_init_X2 tyX2 tyX2_ok nmX2 hown Fz_q_5 rfl 2 (by decide) (hts (.fieldLink RX2 15 "LazyState$Body" "items" "[I") (by decide +kernel)) rfl hnm rfl rfl rfl (Nat.le_of_ble_eq_true rfl) dX2_init_17 (fun H locs hH => ?_)
  have hH : mH G s (va_up f_6 q (some (.inr (2, [.int 0, .ref q_1, .ref q_5, .int 0, .null])))) H locs := hH
  obtain ⟨f_7, ef_7⟩ : ∃ zz_ : mF, zz_ = va_up f_6 q (some (.inr (2, [.int 0, .ref q_1, .ref q_5, .int 0, .null]))) := ⟨_, rfl⟩
  rw [← ef_7] at hH
  have F_8 : f_7 q = some (.inr (2, [.int 0, .ref q_1, .ref q_5, .int 0, .null])) := by rw [ef_7]; exact va_up_self _ _ _
  have hex : ∀ (a : Nat) (e : va_E), a ≠ q → f a = some e → f_7 a = some e := fun a e h1 h2 => upk (hex a e h1 h2) ef_7 h1
  have Fq_1_f_7 := upk Fq_1_f_6 ef_7 (Nat.ne_of_gt ltq_q_1)
  have Fq_5_f_7 := upk F_q_5 ef_7 (Nat.ne_of_gt ltq_q_5)
  refine lv_aload_n hx hb dX2_init_20 rfl (lv_at hl 0 rfl) ?_
  refine lv_iload_n hx hb dX2_init_21 rfl (lv_at hl 1 rfl) ?_
  refine m_putF (ci := 2) (v := .int ty) (C := RX2) (T := TX2) (N := 5) hx hb hC hH hts in_X2_init_X2 tyX2 tyX2_ok nmX2 hown F_8 rfl 0 (by decide) (hts (.fieldLink RX2 19 "LazyState$Body" "type" "I") (by decide +kernel)) rfl hnm rfl rfl rfl (Nat.le_of_ble_eq_true rfl) dX2_init_22 (fun H locs hH => ?_)
  have hH : mH G s (va_up f_7 q (some (.inr (2, [.int ty, .ref q_1, .ref q_5, .int 0, .null])))) H locs := hH
  obtain ⟨f_9, ef_9⟩ : ∃ zz_ : mF, zz_ = va_up f_7 q (some (.inr (2, [.int ty, .ref q_1, .ref q_5, .int 0, .null]))) := ⟨_, rfl⟩
  rw [← ef_9] at hH
  have F_10 : f_9 q = some (.inr (2, [.int ty, .ref q_1, .ref q_5, .int 0, .null])) := by rw [ef_9]; exact va_up_self _ _ _
  have hex : ∀ (a : Nat) (e : va_E), a ≠ q → f a = some e → f_9 a = some e := fun a e h1 h2 => upk (hex a e h1 h2) ef_9 h1
  have Fq_1_f_9 := upk Fq_1_f_7 ef_9 (Nat.ne_of_gt ltq_q_1)
  have Fq_5_f_9 := upk Fq_5_f_7 ef_9 (Nat.ne_of_gt ltq_q_5)
  refine lv_iconst (v := 0) hx hb dX2_init_25 (by decide) ?_
  refine lv_istore_n (lv' := [(2, .int 0), (0, .ref q), (1, .int ty)]) hx hb dX2_init_26 rfl hl (by decide) rfl (fun ls hl => ?_)
  have loop_27 : ∀ (fuel_ : Nat) (j2 : Int32) (fL : mF) (gL : Nat → Int64) (h0_ : 0 ≤ j2.toInt) (h1_ : j2.toInt ≤ 8) (FqL : fL q = some (.inr (2, [.int ty, .ref q_1, .ref q_5, .int 0, .null]))) (FcL : fL q_1 = some (.inl (gk G 1, 8, .inr (.inl (gL))))) (FiL : fL q_5 = some (.inl (gk G 0, 16, .inl (fun _ => 0)))) (hexL : ∀ (a : Nat) (e : va_E), a ≠ q → f a = some e → fL a = some e) (hall : ∀ j : Nat, (j : Int) < j2.toInt → gL j = (fstB t).1 j) (_ : ((8 : Int) - j2.toInt).toNat < fuel_) (H : Heap) (locs : List Loc) (ls : Array Slot) (_ : mH G s fL H locs) (_ : lv_has ls 4 [(0, .ref q), (1, .int ty), (2, .int j2)]), W p l e ({ frames := 1, cells := 2, slots := 24, locals := 12 } : Room) s m ([.ref q, .int ty] : List Value).toArray below meth c H locs (0 + 1 + 1) (0 + 8 + 16) (MQ below (va_Qv (fun (u : mS) => ∃ (ca ia : Nat) (g : Nat → Int64), u.2 q = some (.inr (2, [.int ty, .ref ca, .ref ia, .int 0, .null])) ∧ u.2 ca = some (.inl (gk G 1, 8, .inr (.inl g))) ∧ u.2 ia = some (.inl (gk G 0, 16, .inl (fun _ => 0))) ∧ (∀ j, j < 8 → g j = (fstB t).1 j) ∧ f ca = none ∧ f ia = none ∧ q < ca ∧ ca < ia ∧ ∀ (a : Nat) (e : va_E), a ≠ q → f a = some e → u.2 a = some e) (fun (u : mS) t => mW G u.2 t) (mA G)) ([.ref q, .int ty] : List Value).toArray s 2 24 (mA G)) (F0 m 27 ls []) := by
    intro N_27
    induction N_27 with
    | zero => intro j2 fL gL h0_ h1_ FqL FcL FiL hexL hall hN; omega
    | succ N_27 ih_27 =>
      intro j2 fL gL h0_ h1_ FqL FcL FiL hexL hall hN_27 H locs ls hH hl
      refine lv_iload_n hx hb dX2_init_27 rfl (lv_at hl 2 rfl) ?_
      refine lv_bipush (v := 8) hx hb dX2_init_28 (by decide) ?_
      refine lv_icmp_ge (tgt := 73) hx hb dX2_init_30 (by decide) (fun c_11 => ?_) (fun c_11 => ?_)
      · skip
        have ic_11 : (8 : Int) ≤ j2.toInt := ic_le kI_8 rfl c_11
        exact m_vret hx hb hr hlk hC hH (fun _ => (0, 0)) ⟨q_1, q_5, gL, FqL, FcL, FiL, fun j_ hj_ => hall j_ (by omega), hnf_q_1, hnf_q_5, ltq_q_1, lt_q_5_q_1, hexL⟩ (by omega) (by omega) dX2_init_73
      · skip
        have ic_11 : (8 : Int) > j2.toInt := ic_nle kI_8 rfl c_11
        refine m_gets hx hb hC.2.2.1 hH hown (hts (.fieldLink RX2 23 "LazyState$Body" "SORTS" "[I") (by decide +kernel)) dX2_init_33 ?_
        refine lv_iload_n hx hb dX2_init_36 rfl (lv_at hl 1 rfl) ?_
        refine lv_bipush (v := 8) hx hb dX2_init_37 (by decide) ?_
        refine lv_imul hx hb dX2_init_39 ?_
        refine lv_topi (fun x_12 ex_12 => ?_)
        have ix_12 : x_12.toInt = ty.toInt * 8 := ic_mul ex_12 rfl kI_8 (by omega) (by omega)
        refine lv_iload_n hx hb dX2_init_40 rfl (lv_at hl 2 rfl) ?_
        refine lv_iadd hx hb dX2_init_41 ?_
        refine lv_topi (fun x_13 ex_13 => ?_)
        have ix_13 : x_13.toInt = x_12.toInt + j2.toInt := ic_add ex_13 rfl rfl (by omega) (by omega)
        refine m_ti hx hb hC.2.2.2.1 hH (vp_in_iff.mpr ⟨by omega, by omega⟩) dX2_init_42 ?_
        refine lv_topi (fun x_14 ex_14 => ?_)
        have sq_ : x_14.toInt = ((srt t j2.toNatClampNeg : Nat) : Int) := by rw [ex_14, show x_13.toNatClampNeg = 8 * t + j2.toNatClampNeg from by have := ic_clN (rfl : x_13.toInt = _) (by omega); have := ic_clN (rfl : j2.toInt = _) (by omega); omega, srt_I t ht j2.toNatClampNeg (by have := ic_clN (rfl : j2.toInt = _) (by omega); omega)]; exact nI_toInt (by have := srt_b t ht j2.toNatClampNeg (by have := ic_clN (rfl : j2.toInt = _) (by omega); omega); omega)
        refine lv_istore_n (lv' := [(3, .int x_14), (0, .ref q), (1, .int ty), (2, .int j2)]) hx hb dX2_init_43 rfl hl (by decide) rfl (fun ls hl => ?_)
        refine lv_aload_n hx hb dX2_init_44 rfl (lv_at hl 1 rfl) ?_
        refine m_get (ci := 2) (v := .ref q_1) (C := RX2) (T := TX2) (N := 5) hx hb hC hH hts in_X2_init_X2 hown FqL rfl 1 (by decide) (hts (.fieldLink RX2 9 "LazyState$Body" "cells" "[J") (by decide +kernel)) rfl dX2_init_45 ?_
        refine lv_iload_n hx hb dX2_init_48 rfl (lv_at hl 3 rfl) ?_
        refine lv_iload_n hx hb dX2_init_49 rfl (lv_at hl 0 rfl) ?_
        refine lv_iconst (v := 2) hx hb dX2_init_50 (by decide) ?_
        refine lv_icmp_eq (tgt := 59) hx hb dX2_init_51 (by decide) (fun c_15 => ?_) (fun c_15 => ?_)
        · skip
          have ic_15 : (x_14.toInt : Int) = 2 := ic_eq rfl kI_2 c_15
          refine lv_ldc2 (v := (-3)) hx hb hown (hts (.constantLong RX2 26 (-3)) (by decide +kernel)) dX2_init_59 ?_
          refine lv_goto (tgt := 66) hx hb dX2_init_62 (by decide) ?_
          refine m_last hx hb hC hH FcL (vp_in_iff.mpr ⟨by omega, by omega⟩) dX2_init_66 (fun H locs hH => ?_)
          obtain ⟨f_16, ef_16⟩ : ∃ zz_ : mF, zz_ = va_up fL q_1 (some (.inl (gk G 1, 8, .inr (.inl (vp_updL gL j2.toNatClampNeg (-3)))))) := ⟨_, rfl⟩
          rw [← ef_16] at hH
          have FcN_ : f_16 q_1 = some (.inl (gk G 1, 8, .inr (.inl (vp_updL gL j2.toNatClampNeg (-3))))) := by rw [ef_16]; exact va_up_self _ _ _
          have FqN_ := upk FqL ef_16 (Nat.ne_of_lt ltq_q_1)
          have FiN_ := upk FiL ef_16 (Nat.ne_of_gt lt_q_5_q_1)
          have hexN_ : ∀ (a : Nat) (e : va_E), a ≠ q → f a = some e → f_16 a = some e := fun a e h1 h2 => upk (hexL a e h1 h2) ef_16 (fun z_ => by rw [z_, hnf_q_1] at h2; cases h2)
          have all_ : ∀ j : Nat, (j : Int) < j2.toInt + 1 → (vp_updL gL j2.toNatClampNeg (-3)) j = (fstB t).1 j := fun j hj => by unfold vp_updL; split; (rename_i z_; rw [z_]; show (-3) = if srt t j2.toNatClampNeg = 2 ∨ srt t j2.toNatClampNeg = 3 then (-3 : Int64) else 0; rw [if_pos (by omega)]); exact hall j (by have := ic_clN (rfl : j2.toInt = _) (by omega); omega)
          obtain ⟨x_17, ex_17⟩ : ∃ y : Int32, y = j2 + 1 := ⟨_, rfl⟩
          have ix_17 : x_17.toInt = j2.toInt + 1 := ic_add ex_17 rfl kI_1 (by omega) (by omega)
          refine lv_iinc (v := x_17) (lv' := [(2, .int x_17), (3, .int x_14), (0, .ref q), (1, .int ty)]) hx hb dX2_init_67 hl (k := 3) rfl (by rw [ex_17]; rfl) (by decide) rfl (fun ls hl => ?_)
          refine lv_goto (tgt := 27) hx hb dX2_init_70 (by decide) ?_
          exact ih_27 x_17 f_16 (vp_updL gL j2.toNatClampNeg (-3)) (by omega) (by omega) FqN_ FcN_ FiN_ hexN_ (fun j hj => all_ j (by omega)) (by omega) _ _ _ hH (lv_sub hl [2, 3, 0] rfl)
        · skip
          have ic_15 : (x_14.toInt : Int) ≠ 2 := ic_ne rfl kI_2 c_15
          refine lv_iload_n hx hb dX2_init_54 rfl (lv_at hl 0 rfl) ?_
          refine lv_iconst (v := 3) hx hb dX2_init_55 (by decide) ?_
          refine lv_icmp_ne (tgt := 65) hx hb dX2_init_56 (by decide) (fun c_18 => ?_) (fun c_18 => ?_)
          · skip
            have ic_18 : (x_14.toInt : Int) ≠ 3 := ic_ne rfl kI_3 c_18
            refine lv_lconst (v := 0) hx hb dX2_init_65 (by decide) ?_
            refine m_last hx hb hC hH FcL (vp_in_iff.mpr ⟨by omega, by omega⟩) dX2_init_66 (fun H locs hH => ?_)
            obtain ⟨f_19, ef_19⟩ : ∃ zz_ : mF, zz_ = va_up fL q_1 (some (.inl (gk G 1, 8, .inr (.inl (vp_updL gL j2.toNatClampNeg 0))))) := ⟨_, rfl⟩
            rw [← ef_19] at hH
            have FcN_ : f_19 q_1 = some (.inl (gk G 1, 8, .inr (.inl (vp_updL gL j2.toNatClampNeg 0)))) := by rw [ef_19]; exact va_up_self _ _ _
            have FqN_ := upk FqL ef_19 (Nat.ne_of_lt ltq_q_1)
            have FiN_ := upk FiL ef_19 (Nat.ne_of_gt lt_q_5_q_1)
            have hexN_ : ∀ (a : Nat) (e : va_E), a ≠ q → f a = some e → f_19 a = some e := fun a e h1 h2 => upk (hexL a e h1 h2) ef_19 (fun z_ => by rw [z_, hnf_q_1] at h2; cases h2)
            have all_ : ∀ j : Nat, (j : Int) < j2.toInt + 1 → (vp_updL gL j2.toNatClampNeg 0) j = (fstB t).1 j := fun j hj => by unfold vp_updL; split; (rename_i z_; rw [z_]; show 0 = if srt t j2.toNatClampNeg = 2 ∨ srt t j2.toNatClampNeg = 3 then (-3 : Int64) else 0; rw [if_neg (by omega)]); exact hall j (by have := ic_clN (rfl : j2.toInt = _) (by omega); omega)
            obtain ⟨x_20, ex_20⟩ : ∃ y : Int32, y = j2 + 1 := ⟨_, rfl⟩
            have ix_20 : x_20.toInt = j2.toInt + 1 := ic_add ex_20 rfl kI_1 (by omega) (by omega)
            refine lv_iinc (v := x_20) (lv' := [(2, .int x_20), (3, .int x_14), (0, .ref q), (1, .int ty)]) hx hb dX2_init_67 hl (k := 3) rfl (by rw [ex_20]; rfl) (by decide) rfl (fun ls hl => ?_)
            refine lv_goto (tgt := 27) hx hb dX2_init_70 (by decide) ?_
            exact ih_27 x_20 f_19 (vp_updL gL j2.toNatClampNeg 0) (by omega) (by omega) FqN_ FcN_ FiN_ hexN_ (fun j hj => all_ j (by omega)) (by omega) _ _ _ hH (lv_sub hl [2, 3, 0] rfl)
          · skip
            have ic_18 : (x_14.toInt : Int) = 3 := ic_eq rfl kI_3 c_18
            refine lv_ldc2 (v := (-3)) hx hb hown (hts (.constantLong RX2 26 (-3)) (by decide +kernel)) dX2_init_59 ?_
            refine lv_goto (tgt := 66) hx hb dX2_init_62 (by decide) ?_
            refine m_last hx hb hC hH FcL (vp_in_iff.mpr ⟨by omega, by omega⟩) dX2_init_66 (fun H locs hH => ?_)
            obtain ⟨f_21, ef_21⟩ : ∃ zz_ : mF, zz_ = va_up fL q_1 (some (.inl (gk G 1, 8, .inr (.inl (vp_updL gL j2.toNatClampNeg (-3)))))) := ⟨_, rfl⟩
            rw [← ef_21] at hH
            have FcN_ : f_21 q_1 = some (.inl (gk G 1, 8, .inr (.inl (vp_updL gL j2.toNatClampNeg (-3))))) := by rw [ef_21]; exact va_up_self _ _ _
            have FqN_ := upk FqL ef_21 (Nat.ne_of_lt ltq_q_1)
            have FiN_ := upk FiL ef_21 (Nat.ne_of_gt lt_q_5_q_1)
            have hexN_ : ∀ (a : Nat) (e : va_E), a ≠ q → f a = some e → f_21 a = some e := fun a e h1 h2 => upk (hexL a e h1 h2) ef_21 (fun z_ => by rw [z_, hnf_q_1] at h2; cases h2)
            have all_ : ∀ j : Nat, (j : Int) < j2.toInt + 1 → (vp_updL gL j2.toNatClampNeg (-3)) j = (fstB t).1 j := fun j hj => by unfold vp_updL; split; (rename_i z_; rw [z_]; show (-3) = if srt t j2.toNatClampNeg = 2 ∨ srt t j2.toNatClampNeg = 3 then (-3 : Int64) else 0; rw [if_pos (by omega)]); exact hall j (by have := ic_clN (rfl : j2.toInt = _) (by omega); omega)
            obtain ⟨x_22, ex_22⟩ : ∃ y : Int32, y = j2 + 1 := ⟨_, rfl⟩
            have ix_22 : x_22.toInt = j2.toInt + 1 := ic_add ex_22 rfl kI_1 (by omega) (by omega)
            refine lv_iinc (v := x_22) (lv' := [(2, .int x_22), (3, .int x_14), (0, .ref q), (1, .int ty)]) hx hb dX2_init_67 hl (k := 3) rfl (by rw [ex_22]; rfl) (by decide) rfl (fun ls hl => ?_)
            refine lv_goto (tgt := 27) hx hb dX2_init_70 (by decide) ?_
            exact ih_27 x_22 f_21 (vp_updL gL j2.toNatClampNeg (-3)) (by omega) (by omega) FqN_ FcN_ FiN_ hexN_ (fun j hj => all_ j (by omega)) (by omega) _ _ _ hH (lv_sub hl [2, 3, 0] rfl)
  exact loop_27 (((8 : Int) - 0).toNat + 1) 0 f_9 (fun _ => 0) (by have := kI_0; omega) (by have := kI_0; omega) F_10 Fq_1_f_9 Fq_5_f_9 hex (fun j hj => by have := kI_0; omega) (by have := kI_0; omega) _ _ _ hH (lv_sub hl [1, 2, 0] rfl)
