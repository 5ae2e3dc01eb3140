set_option maxHeartbeats 4000000 in
set_option maxRecDepth 100000 in
theorem c_X5_object (l : Launch) (G : mG) (k : Nat → Nat) (own : tR) (n : Nat) (T z : Nat → Nat) (A : Nat → tA) (hg : Nat) (ver : Nat → Nat → tB) (cq : Nat → Bool) (fe : Int32) (tms : Nat → Int32) (ca : Int32) (wl : List Nat) (wh : Int32) (ac th : Nat) (sx : Int32) (ld : Nat → Bool) (tr : List Nat) (gf : Int64) (D : tD) (f : mF) (hM : CM G k own n z D f) (hG : GC n T z A hg ver cq fe tms ca wl wh ac th sx ld tr gf D) (ty : Int32) : Met l yX5_object wsX5_object ({ frames := 2, cells := 3, slots := 29, locals := 35 }) (va_Pc [.ref (k 0), .int ty] (mW G f)) (va_Qi (fun (r : Int32) (u : mS) => frD own f u.1 u.2 ∧ (((ty.toInt < 0 ∨ 3 ≤ ty.toInt) ∧ r.toInt = -1 ∧ (∃ D2, CM G k u.1 n z D2 u.2 ∧ GC n T z A hg ver cq fe tms ca wl wh ac th sx ld tr gf D2)) ∨ (0 ≤ ty.toInt ∧ ty.toInt < 3 ∧ n = 24 ∧ r.toInt = -2 ∧ (∃ D2, CM G k u.1 n z D2 u.2 ∧ GC n T z A hg ver cq fe tms ca wl wh ac th sx ld tr gf D2)) ∨ (0 ≤ ty.toInt ∧ ty.toInt < 3 ∧ n < 24 ∧ r.toInt = n ∧ (∃ D2, CM G k u.1 (n + 1) z D2 u.2 ∧ GC (n + 1) (va_up T n ty.toNatClampNeg) z A hg (fun a_ => va_up (ver a_) n (fstB ty.toNatClampNeg)) cq fe tms ca wl wh ac th sx ld tr gf D2)))) (fun (u : mS) t => mW G u.2 t) (mA G)) 3 29 (mA G) := by
  refine mMet [.ref (k 0), .int ty] (cc := cX5_object) (maxL := 2) (ret := (some .int)) (by decide) rfl (Nat.le_of_ble_eq_true rfl) ?_
  intro p e s m below meth c ls hx hb hr hml hts hown hlk hnm hC hH hl
  have hl : lv_has ls 2 [(0, .ref (k 0)), (1, .int ty)] := hl
  have hfr : frD own f own f := frD.rf
  have n24_ := hG.bs.1
  have hT3_ := hG.bs.2
  have h40_ := hG.h40
  have wl_ := hG.wr.1
  obtain ⟨cb_1, hl_1, hcb_1⟩ := hG.ln
  obtain ⟨⟨lb_1, st_1, nx_1, hq0_1, hlb_1⟩, htr_1, hld_⟩ := hG.lt
  have hlen_ := len_b htr_1.1
  have ol_ := ocn_le tr
  have tn_1 : (nI n).toInt = ((n : Nat) : Int) := nI_toInt (by omega)
  have th_1 : (nI hg).toInt = ((hg : Nat) : Int) := nI_toInt (by omega)
  have tw_1 : (nI wl.length).toInt = ((wl.length : Nat) : Int) := nI_toInt (by omega)
  have te_1 : (eD D 0).1.toInt = ((tr.length : Nat) : Int) := by rw [htr_1.2.1]; exact nI_toInt (by omega)
  refine lv_iload_n hx hb dX5_object_0 rfl (lv_at hl 1 rfl) ?_
  refine lv_if_lt (tgt := 9) hx hb dX5_object_1 (by decide) (fun c_2 => ?_) (fun c_2 => ?_)
  · skip
    have ic_2 : (ty.toInt : Int) < 0 := ic_lt rfl kI_0 c_2
    refine lv_iconst (v := (-1)) hx hb dX5_object_9 (by decide) ?_
    exact m_iret (v := (-1)) hx hb hr hlk hC hH own ⟨hfr, Or.inl ⟨by omega, kI_m1, _, hM, hG⟩⟩ (by omega) (by omega) dX5_object_10
  · skip
    have ic_2 : (ty.toInt : Int) ≥ 0 := ic_nlt rfl kI_0 c_2
    refine lv_iload_n hx hb dX5_object_4 rfl (lv_at hl 1 rfl) ?_
    refine lv_iconst (v := 3) hx hb dX5_object_5 (by decide) ?_
    refine lv_icmp_lt (tgt := 11) hx hb dX5_object_6 (by decide) (fun c_3 => ?_) (fun c_3 => ?_)
    · skip
      have ic_3 : (ty.toInt : Int) < 3 := ic_lt rfl kI_3 c_3
      refine lv_aload_n hx hb dX5_object_11 rfl (lv_at hl 0 rfl) ?_
      have F_4 : f (k 0) = some (.inr (5, [.ref (k 1), .int (nI n), .int (nI hg), .ref (k 2), .ref (k 5), .ref (k 13), .ref (k 21), .int ca, .int fe, .int cb_1, .ref (k 3), .int (nI wl.length), .ref (k 4), .int sx])) := by have w_ := hM.c0; rw [hl_1] at w_; exact w_
      refine m_get (ci := 5) (v := .int (nI n)) (C := RX5) (T := TX5) (N := 14) hx hb hC hH hts in_X5_object_X5 hown F_4 rfl 1 (by decide) (hts (.fieldLink RX5 46 "LazyState" "objectCount" "I") (by decide +kernel)) rfl dX5_object_12 ?_
      refine lv_bipush (v := 24) hx hb dX5_object_15 (by decide) ?_
      refine lv_icmp_lt (tgt := 23) hx hb dX5_object_17 (by decide) (fun c_5 => ?_) (fun c_5 => ?_)
      · skip
        have ic_5 : (((n : Nat) : Int) : Int) < 24 := ic_lt tn_1 kI_24 c_5
        refine lv_aload_n hx hb dX5_object_23 rfl (lv_at hl 0 rfl) ?_
        refine m_get (ci := 5) (v := .ref (k 1)) (C := RX5) (T := TX5) (N := 14) hx hb hC hH hts in_X5_object_X5 hown F_4 rfl 0 (by decide) (hts (.fieldLink RX5 11 "LazyState" "objects" "[LLazyState$Body;") (by decide +kernel)) rfl dX5_object_24 ?_
        refine lv_aload_n hx hb dX5_object_27 rfl (lv_at hl 0 rfl) ?_
        refine m_get (ci := 5) (v := .int (nI n)) (C := RX5) (T := TX5) (N := 14) hx hb hC hH hts in_X5_object_X5 hown F_4 rfl 1 (by decide) (hts (.fieldLink RX5 46 "LazyState" "objectCount" "I") (by decide +kernel)) rfl dX5_object_28 ?_
        have ct_ := ic_clN (rfl : ty.toInt = _) (by omega)
        refine m_new (ci := 2) (fs := [.int 0, .null, .null, .int 0, .null]) hx hb hC hH hts in_X5_object_X2 tyX2 tyX2_ok hown (hts (.classLink RX5 9 RX2) (by decide +kernel)) (hts (.instantiable RX2 5) (by decide +kernel)) (hts (.initialized RX2) (by decide +kernel)) rfl (by decide) (by show _ ≤ 3; omega) (by show _ ≤ 29; omega) dX5_object_31 (fun q_6 H hlt_q_6 hge_q_6 hno_q_6 hH => ?_)
        obtain ⟨f_7, ef_7⟩ : ∃ zz_ : mF, zz_ = va_up f q_6 (some (.inr (2, [.int 0, .null, .null, .int 0, .null]))) := ⟨_, rfl⟩
        rw [← ef_7] at hH
        have hMo_ := hM
        have hfro_ := hfr
        have hM := hM.fresh hno_q_6 ef_7 (fun _ _ => rfl)
        have hfr := hfr.fresh hno_q_6 ef_7 (fun _ _ => rfl)
        have Fn_ : f_7 q_6 = some (.inr (2, [.int 0, .null, .null, .int 0, .null])) := by rw [ef_7]; exact va_up_self _ _ _
        refine lv_dup hx hb dX5_object_34 rfl ?_
        refine lv_iload_n hx hb dX5_object_35 rfl (lv_at hl 1 rfl) ?_
        have hyo_ : ty.toInt = ((ty.toNatClampNeg : Nat) : Int) := (ic_clN (rfl : ty.toInt = _) (by omega)).symm
        refine m_gov hH (va_runI (As := [.int ty]) (rest := [.ref q_6, .int (nI n), .ref (k 1)]) ⟨hx, hb, hml, hown, hts⟩ (c_X2_init l G f_7 q_6 ty.toNatClampNeg Fn_ (by omega) ty hyo_) (cwI 1 hts gX5_object_X2_init rfl rfl rfl (hts (.initialized RX2) (by decide +kernel)) (hts (.methodLink RX5 49 yX2_init) (by decide +kernel)) (hts (.instanceMethod yX2_init) (by decide +kernel)) rfl (by decide +kernel) ⟨Nat.le_of_ble_eq_true rfl, Nat.le_of_ble_eq_true rfl⟩) (m_preS hC hH) rfl rfl hl.1 rfl (lv_room (Nat.le_of_ble_eq_true rfl)) dX5_object_36 ⟨by show _ ≤ 3; omega, by show _ ≤ 29; omega⟩) (fun rho_10 f_9 H locs hw hH => ?_)
        obtain ⟨ca_, ia_, gn_, B0_, B1_, B2_, B3_, B4_, B5_, B6_, B7_, hex_⟩ := hw
        have hex_ : ∀ (a : Nat) (e : va_E), a ≠ q_6 → f_7 a = some e → f_9 a = some e := hex_
        have B0_ : f_9 q_6 = some (.inr (2, [.int ty, .ref ca_, .ref ia_, .int 0, .null])) := B0_
        obtain ⟨own_n, eo_⟩ : ∃ w_ : tR, w_ = va_up (va_up (va_up own ca_ (3, q_6)) ia_ (4, q_6)) q_6 (2, q_6) := ⟨_, rfl⟩
        have on_ : ∀ a e_, f_7 a = some e_ → a ≠ q_6 → own_n a = own a := fun a e_ h1 h2 => by rw [eo_, va_up_ne _ _ h2, va_up_ne _ _ (fun z_ => by rw [z_, B5_] at h1; cases h1), va_up_ne _ _ (fun z_ => by rw [z_, B4_] at h1; cases h1)]
        have hnq_ : ∀ a e_, f a = some e_ → a ≠ q_6 := fun a e_ h1 z_ => by rw [z_, hno_q_6] at h1; cases h1
        have hM : CM G k own_n n z D f_9 := hMo_.mono (fun a e_ h1 _ => ⟨hex_ a e_ (hnq_ a e_ h1) (upk h1 ef_7 (hnq_ a e_ h1)), on_ a e_ (upk h1 ef_7 (hnq_ a e_ h1)) (hnq_ a e_ h1)⟩)
        have oq_ : own_n q_6 = (2, q_6) := by rw [eo_]; exact va_up_self _ _ _
        have oc_ : own_n ca_ = (3, q_6) := by rw [eo_, va_up_ne _ _ (Nat.ne_of_gt B6_), va_up_ne _ _ (Nat.ne_of_lt B7_)]; exact va_up_self _ _ _
        have oi_ : own_n ia_ = (4, q_6) := by rw [eo_, va_up_ne _ _ (Nat.ne_of_gt (Nat.lt_trans B6_ B7_))]; exact va_up_self _ _ _
        have bn_ : BD D q_6 = none := by cases hq_ : BD D q_6 with | none => rfl | some b_ => exact absurd rfl (hnq_ _ _ (hMo_.p0 _ _ hq_))
        have hM := hM.newB (q := q_6) (b0 := ((0, n), ty.toNatClampNeg, ca_, ia_, 0, none, (gn_, fun _ => 0))) (by rw [B0_]; exact (by rw [show ty = nI ty.toNatClampNeg from ic_inj hyo_ (by omega)]; rw [nI_cl (by omega)]; rfl)) B1_ B2_ oq_ oc_ oi_
        have hfr : frD own f own_n f_9 := hfro_.trans (fun a e_ h1 => ⟨⟨e_, hex_ a e_ (hnq_ a e_ h1) (upk h1 ef_7 (hnq_ a e_ h1))⟩, on_ a e_ (upk h1 ef_7 (hnq_ a e_ h1)) (hnq_ a e_ h1), fun _ => hex_ a e_ (hnq_ a e_ h1) (upk h1 ef_7 (hnq_ a e_ h1))⟩)
        have hg_11 := hM.c1
        refine m_aast (ci := 2) hx hb hC hH 3 rfl hg_11 B0_ rfl (vp_in_iff.mpr (by rw [tn_1]; exact ⟨by omega, by omega⟩)) dX5_object_39 (fun H locs hH => ?_)
        obtain ⟨f_12, ef_12⟩ : ∃ zz_ : mF, zz_ = va_up f_9 (k 1) (some (.inl (gk G 3, 24, .inr (.inr (.inr (.inr (va_up (QD (dB D q_6 ((0, n), ty.toNatClampNeg, ca_, ia_, 0, none, (gn_, fun _ => 0))) 1) ((nI n).toNatClampNeg) (some q_6)))))))) := ⟨_, rfl⟩
        rw [← ef_12] at hH
        have ix_ : (nI n).toNatClampNeg = n := by have := ic_clN tn_1 (by omega); omega
        rw [ix_] at ef_12
        have hM := hM.setQ1 ef_12
        have hfr := hfr.up (by rw [hM.ok 1 (by omega)]; exact (by decide : (1 : Nat) ≠ 0)) ef_12
        have hM : CM G k own_n n z (nvD D n q_6 ((0, n), ty.toNatClampNeg, ca_, ia_, 0, none, (gn_, fun _ => 0))) f_12 := hM
        have hl2_ : lD (nvD D n q_6 ((0, n), ty.toNatClampNeg, ca_, ia_, 0, none, (gn_, fun _ => 0))) = (nI hg, ca, fe, cb_1, nI wl.length, sx) := hl_1
        refine lv_aload_n hx hb dX5_object_40 rfl (lv_at hl 0 rfl) ?_
        refine lv_dup hx hb dX5_object_41 rfl ?_
        have F_13 : f_12 (k 0) = some (.inr (5, [.ref (k 1), .int (nI n), .int (nI hg), .ref (k 2), .ref (k 5), .ref (k 13), .ref (k 21), .int ca, .int fe, .int cb_1, .ref (k 3), .int (nI wl.length), .ref (k 4), .int sx])) := by have w_ := hM.c0; rw [hl2_] at w_; exact w_
        refine m_get (ci := 5) (v := .int (nI n)) (C := RX5) (T := TX5) (N := 14) hx hb hC hH hts in_X5_object_X5 hown F_13 rfl 1 (by decide) (hts (.fieldLink RX5 46 "LazyState" "objectCount" "I") (by decide +kernel)) rfl dX5_object_42 ?_
        refine lv_iconst (v := 1) hx hb dX5_object_45 (by decide) ?_
        refine lv_iadd hx hb dX5_object_46 ?_
        refine lv_topi (fun x_14 ex_14 => ?_)
        have ix_14 : x_14.toInt = ((n : Nat) : Int) + 1 := ic_add ex_14 tn_1 kI_1 (by omega) (by omega)
        refine m_put (ci := 5) (v := .int x_14) (C := RX5) (T := TX5) (N := 14) hx hb hC hH hts in_X5_object_X5 tyX5 tyX5_ok nmX5 hown F_13 rfl 1 (by decide) (hts (.fieldLink RX5 46 "LazyState" "objectCount" "I") (by decide +kernel)) rfl rfl rfl (Nat.le_of_ble_eq_true rfl) dX5_object_47 (fun H locs hH => ?_)
        have hH : mH G s (va_up f_12 (k 0) (some (.inr (5, [.ref (k 1), .int x_14, .int (nI hg), .ref (k 2), .ref (k 5), .ref (k 13), .ref (k 21), .int ca, .int fe, .int cb_1, .ref (k 3), .int (nI wl.length), .ref (k 4), .int sx])))) H locs := hH
        obtain ⟨f_15, ef_15⟩ : ∃ zz_ : mF, zz_ = va_up f_12 (k 0) (some (.inr (5, [.ref (k 1), .int x_14, .int (nI hg), .ref (k 2), .ref (k 5), .ref (k 13), .ref (k 21), .int ca, .int fe, .int cb_1, .ref (k 3), .int (nI wl.length), .ref (k 4), .int sx]))) := ⟨_, rfl⟩
        rw [← ef_15] at hH
        have nx1_ : x_14 = nI (n + 1) := ic_inj (by omega) (by omega)
        rw [nx1_] at ef_15
        have hfr := hfr.up (by rw [hM.ok 0 (by omega)]; exact (by decide : (1 : Nat) ≠ 0)) ef_15
        have hM := hM.setL (n2 := n + 1) (c := (nI hg, ca, fe, cb_1, nI wl.length, sx)) ef_15
        have hG := hG.obj (q := q_6) (t := ty.toNatClampNeg) (b := ((0, n), ty.toNatClampNeg, ca_, ia_, 0, none, (gn_, fun _ => 0))) (by omega) (by omega) bn_ rfl rfl rfl (fun j_ hj_ => ⟨B3_ j_ hj_, fun _ _ _ => rfl⟩) (c := (nI hg, ca, fe, cb_1, nI wl.length, sx)) hl_1.symm
        obtain ⟨D_16, eD_16⟩ : ∃ d_ : tD, d_ = dL (nvD D n q_6 ((0, n), ty.toNatClampNeg, ca_, ia_, 0, none, (gn_, fun _ => 0))) (nI hg, ca, fe, cb_1, nI wl.length, sx) := ⟨_, rfl⟩
        have hM : CM G k own_n (n + 1) z D_16 f_15 := by rw [eD_16]; exact hM
        have hG : GC (n + 1) (va_up T n ty.toNatClampNeg) z A hg (fun a_ => va_up (ver a_) n (fstB ty.toNatClampNeg)) cq fe tms ca wl wh ac th sx ld tr gf D_16 := by rw [eD_16]; exact hG
        have n24_ := hG.bs.1
        have hT3_ := hG.bs.2
        have h40_ := hG.h40
        have wl_ := hG.wr.1
        obtain ⟨cb_17, hl_17, hcb_17⟩ := hG.ln
        obtain ⟨⟨lb_17, st_17, nx_17, hq0_17, hlb_17⟩, htr_17, hld_⟩ := hG.lt
        have hlen_ := len_b htr_17.1
        have ol_ := ocn_le tr
        have tn_17 : (nI (n + 1)).toInt = ((n + 1 : Nat) : Int) := nI_toInt (by omega)
        have th_17 : (nI hg).toInt = ((hg : Nat) : Int) := nI_toInt (by omega)
        have tw_17 : (nI wl.length).toInt = ((wl.length : Nat) : Int) := nI_toInt (by omega)
        have te_17 : (eD D_16 0).1.toInt = ((tr.length : Nat) : Int) := by rw [htr_17.2.1]; exact nI_toInt (by omega)
        refine lv_aload_n hx hb dX5_object_50 rfl (lv_at hl 0 rfl) ?_
        have F_18 : f_15 (k 0) = some (.inr (5, [.ref (k 1), .int (nI (n + 1)), .int (nI hg), .ref (k 2), .ref (k 5), .ref (k 13), .ref (k 21), .int ca, .int fe, .int cb_17, .ref (k 3), .int (nI wl.length), .ref (k 4), .int sx])) := by have w_ := hM.c0; rw [hl_17] at w_; exact w_
        refine m_get (ci := 5) (v := .int (nI (n + 1))) (C := RX5) (T := TX5) (N := 14) hx hb hC hH hts in_X5_object_X5 hown F_18 rfl 1 (by decide) (hts (.fieldLink RX5 46 "LazyState" "objectCount" "I") (by decide +kernel)) rfl dX5_object_51 ?_
        refine lv_iconst (v := 1) hx hb dX5_object_54 (by decide) ?_
        refine lv_isub hx hb dX5_object_55 ?_
        refine lv_topi (fun x_19 ex_19 => ?_)
        have ix_19 : x_19.toInt = ((n + 1 : Nat) : Int) - 1 := ic_sub ex_19 tn_17 kI_1 (by omega) (by omega)
        exact m_iret (v := x_19) hx hb hr hlk hC hH own_n ⟨hfr, Or.inr (Or.inr ⟨by omega, by omega, by omega, by omega, _, hM, hG⟩)⟩ (by omega) (by omega) dX5_object_56
      · skip
        have ic_5 : (((n : Nat) : Int) : Int) ≥ 24 := ic_nlt tn_1 kI_24 c_5
        refine lv_bipush (v := (-2)) hx hb dX5_object_20 (by decide) ?_
        exact m_iret (v := (-2)) hx hb hr hlk hC hH own ⟨hfr, Or.inr (Or.inl ⟨by omega, by omega, by omega, kI_m2, _, hM, hG⟩)⟩ (by omega) (by omega) dX5_object_22
    · skip
      have ic_3 : (ty.toInt : Int) ≥ 3 := ic_nlt rfl kI_3 c_3
      refine lv_iconst (v := (-1)) hx hb dX5_object_9 (by decide) ?_
      exact m_iret (v := (-1)) hx hb hr hlk hC hH own ⟨hfr, Or.inl ⟨by omega, kI_m1, _, hM, hG⟩⟩ (by omega) (by omega) dX5_object_10
set_option maxHeartbeats 4000000 in
set_option maxRecDepth 100000 in
theorem c_X5_raiseHeight (l : Launch) (G : mG) (k : Nat → Nat) (own : tR) (n : Nat) (T z : Nat → Nat) (D : tD) (f : mF) (hM : CM G k own n z D f) (n24_ : n ≤ 24) (hg : Nat) (h40_ : hg ≤ 40) (ca fe cb wn sx : Int32) (hLd : lD D = (nI hg, ca, fe, cb, wn, sx)) : Met l yX5_raiseHeight wsX5_raiseHeight ({ frames := 0, cells := 0, slots := 0, locals := 0 }) (va_Pc [.ref (k 0)] (mW G f)) (va_Qv (fun (u : mS) => CM G k u.1 n z (dL D (nI (hg + 1), ca, fe, 0, wn, sx)) u.2 ∧ frD own f u.1 u.2) (fun (u : mS) t => mW G u.2 t) (mA G)) 0 0 (mA G) := by
  refine mMet [.ref (k 0)] (cc := cX5_raiseHeight) (maxL := 1) (ret := none) (by decide) rfl (Nat.le_of_ble_eq_true rfl) ?_
  intro p e s m below meth c ls hx hb hr hml hts hown hlk hnm hC hH hl
  have hl : lv_has ls 1 [(0, .ref (k 0))] := hl
  have hfr : frD own f own f := frD.rf
  have tn_ : (nI n).toInt = ((n : Nat) : Int) := nI_toInt (by omega)
  have th_ : (nI hg).toInt = ((hg : Nat) : Int) := nI_toInt (by omega)
  refine lv_aload_n hx hb dX5_raiseHeight_0 rfl (lv_at hl 0 rfl) ?_
  refine lv_dup hx hb dX5_raiseHeight_1 rfl ?_
  have F_1 : f (k 0) = some (.inr (5, [.ref (k 1), .int (nI n), .int (nI hg), .ref (k 2), .ref (k 5), .ref (k 13), .ref (k 21), .int ca, .int fe, .int cb, .ref (k 3), .int wn, .ref (k 4), .int sx])) := by have w_ := hM.c0; rw [hLd] at w_; exact w_
  refine m_get (ci := 5) (v := .int (nI hg)) (C := RX5) (T := TX5) (N := 14) hx hb hC hH hts in_X5_raiseHeight_X5 hown F_1 rfl 2 (by decide) (hts (.fieldLink RX5 68 "LazyState" "heightNow" "I") (by decide +kernel)) rfl dX5_raiseHeight_2 ?_
  refine lv_iconst (v := 1) hx hb dX5_raiseHeight_5 (by decide) ?_
  refine lv_iadd hx hb dX5_raiseHeight_6 ?_
  refine lv_topi (fun x_2 ex_2 => ?_)
  have ix_2 : x_2.toInt = ((hg : Nat) : Int) + 1 := ic_add ex_2 th_ kI_1 (by omega) (by omega)
  refine m_put (ci := 5) (v := .int x_2) (C := RX5) (T := TX5) (N := 14) hx hb hC hH hts in_X5_raiseHeight_X5 tyX5 tyX5_ok nmX5 hown F_1 rfl 2 (by decide) (hts (.fieldLink RX5 68 "LazyState" "heightNow" "I") (by decide +kernel)) rfl rfl rfl (Nat.le_of_ble_eq_true rfl) dX5_raiseHeight_7 (fun H locs hH => ?_)
  have hH : mH G s (va_up f (k 0) (some (.inr (5, [.ref (k 1), .int (nI n), .int x_2, .ref (k 2), .ref (k 5), .ref (k 13), .ref (k 21), .int ca, .int fe, .int cb, .ref (k 3), .int wn, .ref (k 4), .int sx])))) H locs := hH
  obtain ⟨f_3, ef_3⟩ : ∃ zz_ : mF, zz_ = va_up f (k 0) (some (.inr (5, [.ref (k 1), .int (nI n), .int x_2, .ref (k 2), .ref (k 5), .ref (k 13), .ref (k 21), .int ca, .int fe, .int cb, .ref (k 3), .int wn, .ref (k 4), .int sx]))) := ⟨_, rfl⟩
  rw [← ef_3] at hH
  have hfr := hfr.up (by rw [hM.ok 0 (by omega)]; exact (by decide : (1 : Nat) ≠ 0)) ef_3
  have hx1_ : x_2 = nI (hg + 1) := ic_inj (by omega) (by omega)
  rw [hx1_] at ef_3
  have hM := hM.setL (n2 := n) (c := (nI (hg + 1), ca, fe, cb, wn, sx)) ef_3
  have hM : CM G k own n z (dL D (nI (hg + 1), ca, fe, cb, wn, sx)) f_3 := hM
  refine lv_aload_n hx hb dX5_raiseHeight_10 rfl (lv_at hl 0 rfl) ?_
  refine lv_iconst (v := 0) hx hb dX5_raiseHeight_11 (by decide) ?_
  have F_4 : f_3 (k 0) = some (.inr (5, [.ref (k 1), .int (nI n), .int (nI (hg + 1)), .ref (k 2), .ref (k 5), .ref (k 13), .ref (k 21), .int ca, .int fe, .int cb, .ref (k 3), .int wn, .ref (k 4), .int sx])) := by have w_ := hM.c0; exact w_
  refine m_put (ci := 5) (v := .int 0) (C := RX5) (T := TX5) (N := 14) hx hb hC hH hts in_X5_raiseHeight_X5 tyX5 tyX5_ok nmX5 hown F_4 rfl 9 (by decide) (hts (.fieldLink RX5 122 "LazyState" "cachedBits" "I") (by decide +kernel)) rfl rfl rfl (Nat.le_of_ble_eq_true rfl) dX5_raiseHeight_12 (fun H locs hH => ?_)
  have hH : mH G s (va_up f_3 (k 0) (some (.inr (5, [.ref (k 1), .int (nI n), .int (nI (hg + 1)), .ref (k 2), .ref (k 5), .ref (k 13), .ref (k 21), .int ca, .int fe, .int 0, .ref (k 3), .int wn, .ref (k 4), .int sx])))) H locs := hH
  obtain ⟨f_5, ef_5⟩ : ∃ zz_ : mF, zz_ = va_up f_3 (k 0) (some (.inr (5, [.ref (k 1), .int (nI n), .int (nI (hg + 1)), .ref (k 2), .ref (k 5), .ref (k 13), .ref (k 21), .int ca, .int fe, .int 0, .ref (k 3), .int wn, .ref (k 4), .int sx]))) := ⟨_, rfl⟩
  rw [← ef_5] at hH
  have hfr := hfr.up (by rw [hM.ok 0 (by omega)]; exact (by decide : (1 : Nat) ≠ 0)) ef_5
  have hM := hM.setL (n2 := n) (c := (nI (hg + 1), ca, fe, 0, wn, sx)) ef_5
  have hM : CM G k own n z (dL D (nI (hg + 1), ca, fe, 0, wn, sx)) f_5 := hM
  exact m_vret hx hb hr hlk hC hH own ⟨hM, hfr⟩ (Nat.le_of_ble_eq_true rfl) (Nat.le_of_ble_eq_true rfl) dX5_raiseHeight_15
set_option maxHeartbeats 4000000 in
set_option maxRecDepth 100000 in
theorem c_X5_newVersion (l : Launch) (G : mG) (k : Nat → Nat) (own : tR) (n : Nat) (T z : Nat → Nat) (D : tD) (f : mF) (hM : CM G k own n z D f) (n24_ : n ≤ 24) (hT3_ : ∀ o, T o < 3) (hv : Int32) (hlv : (lD D).1 = hv) (o : Int32) (ho : 0 ≤ o.toInt ∧ o.toInt < n) (a_ : Nat) (ha_ : QD D 1 o.toNatClampNeg = some a_) (q2 : Nat) (b2 : tBo) (hb2 : BD D q2 = some b2) (hy2 : yB b2 = T o.toNatClampNeg) : Met l yX5_newVersion wsX5_newVersion ({ frames := 2, cells := 3, slots := 29, locals := 81 }) (va_Pc [.ref (k 0), .int o, .ref q2] (mW G f)) (va_Qq (fun (r : Option Nat) (u : mS) => ∃ q b, CM G k u.1 n z (nvD D o.toNatClampNeg q b) u.2 ∧ frD own f u.1 u.2 ∧ r = some q ∧ BD D q = none ∧ gB b = (0, o.toNatClampNeg) ∧ yB b = T o.toNatClampNeg ∧ siB b = hv ∧ bfB b = some a_ ∧ eqB (T o.toNatClampNeg) (cB b) (cB b2)) (fun (u : mS) t => mW G u.2 t) (mA G)) 3 29 (mA G) := by
  refine mMet [.ref (k 0), .int o, .ref q2] (cc := cX5_newVersion) (maxL := 4) (ret := (some (.object "LazyState$Body"))) (by decide) rfl (Nat.le_of_ble_eq_true rfl) ?_
  intro p e s m below meth c ls hx hb hr hml hts hown hlk hnm hC hH hl
  have hl : lv_has ls 4 [(0, .ref (k 0)), (1, .int o), (2, .ref q2)] := hl
  have hfr : frD own f own f := frD.rf
  have tn_ : (nI n).toInt = ((n : Nat) : Int) := nI_toInt (by omega)
  have cl_o := ic_clN (rfl : o.toInt = _) (by omega)
  refine m_new (ci := 2) (fs := [.int 0, .null, .null, .int 0, .null]) hx hb hC hH hts in_X5_newVersion_X2 tyX2 tyX2_ok hown (hts (.classLink RX5 9 RX2) (by decide +kernel)) (hts (.instantiable RX2 5) (by decide +kernel)) (hts (.initialized RX2) (by decide +kernel)) rfl (by decide) (by show _ ≤ 3; omega) (by show _ ≤ 29; omega) dX5_newVersion_0 (fun q_1 H hlt_q_1 hge_q_1 hno_q_1 hH => ?_)
  obtain ⟨f_2, ef_2⟩ : ∃ zz_ : mF, zz_ = va_up f q_1 (some (.inr (2, [.int 0, .null, .null, .int 0, .null]))) := ⟨_, rfl⟩
  rw [← ef_2] at hH
  have hMo_ := hM
  have hfro_ := hfr
  have hM := hM.fresh hno_q_1 ef_2 (fun _ _ => rfl)
  have hfr := hfr.fresh hno_q_1 ef_2 (fun _ _ => rfl)
  have Fn_ : f_2 q_1 = some (.inr (2, [.int 0, .null, .null, .int 0, .null])) := by rw [ef_2]; exact va_up_self _ _ _
  refine lv_dup hx hb dX5_newVersion_3 rfl ?_
  refine lv_aload_n hx hb dX5_newVersion_4 rfl (lv_at hl 2 rfl) ?_
  have F_3 : f_2 q2 = some (.inr (2, [.int (nI (yB b2)), .ref (caB b2), .ref (iaB b2), .int (siB b2), va_rf (bfB b2)])) := (hM.bf hb2).1
  have tI_3 : (nI (yB b2)).toInt = ((yB b2 : Nat) : Int) := nI_toInt (by rw [hy2]; have := hT3_ o.toNatClampNeg; omega)
  refine m_get (ci := 2) (v := .int (nI (yB b2))) (C := RX2) (T := TX2) (N := 5) hx hb hC hH hts in_X5_newVersion_X2 hown F_3 rfl 0 (by decide) (hts (.fieldLink RX5 202 "LazyState$Body" "type" "I") (by decide +kernel)) rfl dX5_newVersion_5 ?_
  have hyo_ : (nI (yB b2)).toInt = ((T o.toNatClampNeg : Nat) : Int) := (tI_3).trans (congrArg (fun x_ : Nat => (x_ : Int)) hy2)
  refine m_gov hH (va_runI (As := [.int (nI (yB b2))]) (rest := [.ref q_1]) ⟨hx, hb, hml, hown, hts⟩ (c_X2_init l G f_2 q_1 (T o.toNatClampNeg) Fn_ (hT3_ _) (nI (yB b2)) hyo_) (cwI 1 hts gX5_newVersion_X2_init rfl rfl rfl (hts (.initialized RX2) (by decide +kernel)) (hts (.methodLink RX5 49 yX2_init) (by decide +kernel)) (hts (.instanceMethod yX2_init) (by decide +kernel)) rfl (by decide +kernel) ⟨Nat.le_of_ble_eq_true rfl, Nat.le_of_ble_eq_true rfl⟩) (m_preS hC hH) rfl rfl hl.1 rfl (lv_room (Nat.le_of_ble_eq_true rfl)) dX5_newVersion_8 ⟨by show _ ≤ 3; omega, by show _ ≤ 29; omega⟩) (fun rho_6 f_5 H locs hw hH => ?_)
  obtain ⟨ca_, ia_, gn_, B0_, B1_, B2_, B3_, B4_, B5_, B6_, B7_, hex_⟩ := hw
  have hex_ : ∀ (a : Nat) (e : va_E), a ≠ q_1 → f_2 a = some e → f_5 a = some e := hex_
  have B0_ : f_5 q_1 = some (.inr (2, [.int (nI (yB b2)), .ref ca_, .ref ia_, .int 0, .null])) := B0_
  obtain ⟨own_n, eo_⟩ : ∃ w_ : tR, w_ = va_up (va_up (va_up own ca_ (3, q_1)) ia_ (4, q_1)) q_1 (2, q_1) := ⟨_, rfl⟩
  have on_ : ∀ a e_, f_2 a = some e_ → a ≠ q_1 → own_n a = own a := fun a e_ h1 h2 => by rw [eo_, va_up_ne _ _ h2, va_up_ne _ _ (fun z_ => by rw [z_, B5_] at h1; cases h1), va_up_ne _ _ (fun z_ => by rw [z_, B4_] at h1; cases h1)]
  have hnq_ : ∀ a e_, f a = some e_ → a ≠ q_1 := fun a e_ h1 z_ => by rw [z_, hno_q_1] at h1; cases h1
  have hM : CM G k own_n n z D f_5 := hMo_.mono (fun a e_ h1 _ => ⟨hex_ a e_ (hnq_ a e_ h1) (upk h1 ef_2 (hnq_ a e_ h1)), on_ a e_ (upk h1 ef_2 (hnq_ a e_ h1)) (hnq_ a e_ h1)⟩)
  have oq_ : own_n q_1 = (2, q_1) := by rw [eo_]; exact va_up_self _ _ _
  have oc_ : own_n ca_ = (3, q_1) := by rw [eo_, va_up_ne _ _ (Nat.ne_of_gt B6_), va_up_ne _ _ (Nat.ne_of_lt B7_)]; exact va_up_self _ _ _
  have oi_ : own_n ia_ = (4, q_1) := by rw [eo_, va_up_ne _ _ (Nat.ne_of_gt (Nat.lt_trans B6_ B7_))]; exact va_up_self _ _ _
  have bn_ : BD D q_1 = none := by cases hq_ : BD D q_1 with | none => rfl | some b_ => exact absurd rfl (hnq_ _ _ (hMo_.p0 _ _ hq_))
  have hM := hM.newB (q := q_1) (b0 := ((0, o.toNatClampNeg), (T o.toNatClampNeg), ca_, ia_, 0, none, (gn_, fun _ => 0))) (by rw [B0_]; exact (by rw [show (nI (yB b2)) = nI (T o.toNatClampNeg) from ic_inj hyo_ (by have := hT3_ o.toNatClampNeg; omega)]; rfl)) B1_ B2_ oq_ oc_ oi_
  have hfr : frD own f own_n f_5 := hfro_.trans (fun a e_ h1 => ⟨⟨e_, hex_ a e_ (hnq_ a e_ h1) (upk h1 ef_2 (hnq_ a e_ h1))⟩, on_ a e_ (upk h1 ef_2 (hnq_ a e_ h1)) (hnq_ a e_ h1), fun _ => hex_ a e_ (hnq_ a e_ h1) (upk h1 ef_2 (hnq_ a e_ h1))⟩)
  obtain ⟨b1_, eb1_⟩ : ∃ b_ : tBo, b_ = ((0, o.toNatClampNeg), (T o.toNatClampNeg), ca_, ia_, 0, none, (gn_, fun _ => 0)) := ⟨_, rfl⟩
  rw [← eb1_] at hM
  have gB_1 : gB b1_ = (0, o.toNatClampNeg) := by rw [eb1_]
  have yB_1 : yB b1_ = T o.toNatClampNeg := by rw [eb1_]
  have d2_ : BD (dB D q_1 b1_) q_1 = some b1_ := va_up_self _ _ _
  have d3_ : BD (dB D q_1 b1_) q2 = some b2 := (va_up_ne _ _ (fun z_ => by rw [z_, bn_] at hb2; cases hb2)).trans hb2
  refine lv_astore_n (lv' := [(3, .ref q_1), (0, .ref (k 0)), (1, .int o), (2, .ref q2)]) hx hb dX5_newVersion_11 rfl hl (by decide) rfl (fun ls hl => ?_)
  refine lv_aload_n hx hb dX5_newVersion_12 rfl (lv_at hl 0 rfl) ?_
  refine lv_aload_n hx hb dX5_newVersion_13 rfl (lv_at hl 3 rfl) ?_
  have o1_ := hM.ob _ _ d2_
  have o2_ := hM.ob _ _ d3_
  have F_10 : f_5 q_1 = some (.inr (2, [.int (nI (yB b1_)), .ref (caB b1_), .ref (iaB b1_), .int (siB b1_), va_rf (bfB b1_)])) := (hM.bf d2_).1
  have tI_10 : (nI (yB b1_)).toInt = ((yB b1_ : Nat) : Int) := nI_toInt (by rw [yB_1]; have := hT3_ o.toNatClampNeg; omega)
  refine m_gov hH (va_runV (As := [.ref q2]) (rest := []) ⟨hx, hb, hml, hown, hts⟩ (c_X2_copyFrom l G f_5 q_1 b1_ (hM.bf d2_) (by rw [yB_1]; have := hT3_ o.toNatClampNeg; omega) q2 b2 (hM.bf d3_) (by rw [hy2]; have := hT3_ o.toNatClampNeg; omega) (ow_ne o1_.1 o1_.2.1 (Or.inl (show (2 : Nat) ≠ 3 from by decide))) (ow_ne o1_.1 o1_.2.2 (Or.inl (show (2 : Nat) ≠ 4 from by decide))) (ow_ne o1_.2.1 o1_.2.2 (Or.inl (show (3 : Nat) ≠ 4 from by decide))) (ow_ne o2_.1 o1_.2.1 (Or.inl (show (2 : Nat) ≠ 3 from by decide))) (ow_ne o2_.2.2 o1_.2.1 (Or.inl (show (4 : Nat) ≠ 3 from by decide)))) (cwV 1 hts gX5_newVersion_X2_copyFrom rfl rfl rfl (by decide +kernel) ⟨Nat.le_of_ble_eq_true rfl, Nat.le_of_ble_eq_true rfl⟩) (m_preV (ci := 2) hC hH F_10 rfl) rfl rfl hl.1 rfl (lv_room (Nat.le_of_ble_eq_true rfl)) dX5_newVersion_14 ⟨by show _ ≤ 3; omega, by show _ ≤ 29; omega⟩) (fun rho_9 f_8 H locs hw hH => ?_)
  have eu_ : f_8 = va_up (va_up f_5 (caB b1_) (some (.inl (gk G 1, 8, .inr (.inl ((va_cpy (cB b2).1 (cB b1_).1 0 0 8, va_cpy (cB b2).2 (cB b1_).2 0 0 16).1)))))) (iaB b1_) (some (.inl (gk G 0, 16, .inl ((va_cpy (cB b2).1 (cB b1_).1 0 0 8, va_cpy (cB b2).2 (cB b1_).2 0 0 16).2)))) := hw
  have hM := hM.setPc (a0 := q_1) (b0 := b1_) d2_ (g := (va_cpy (cB b2).1 (cB b1_).1 0 0 8, va_cpy (cB b2).2 (cB b1_).2 0 0 16).1) rfl
  have hM := hM.setPi (a0 := q_1) (b0 := stB b1_ ((va_cpy (cB b2).1 (cB b1_).1 0 0 8, va_cpy (cB b2).2 (cB b1_).2 0 0 16).1, (cB b1_).2)) (va_up_self _ _ _) (g := (va_cpy (cB b2).1 (cB b1_).1 0 0 8, va_cpy (cB b2).2 (cB b1_).2 0 0 16).2) eu_
  rw [dB_dB, dB_dB] at hM
  have hfr := (hfr.up (x := caB b1_) (e := .inl (gk G 1, 8, .inr (.inl ((va_cpy (cB b2).1 (cB b1_).1 0 0 8, va_cpy (cB b2).2 (cB b1_).2 0 0 16).1)))) (by rw [o1_.2.1]; exact (by decide : (3 : Nat) ≠ 0)) rfl).up (x := iaB b1_) (by rw [o1_.2.2]; exact (by decide : (4 : Nat) ≠ 0)) eu_
  obtain ⟨b3_, eb3_⟩ : ∃ b_ : tBo, b_ = stB b1_ (va_cpy (cB b2).1 (cB b1_).1 0 0 8, va_cpy (cB b2).2 (cB b1_).2 0 0 16) := ⟨_, rfl⟩
  have hM : CM G k own_n n z (dB D q_1 b3_) f_8 := by rw [eb3_]; exact hM
  have d4_ : BD (dB D q_1 b3_) q_1 = some b3_ := va_up_self _ _ _
  have ec_ : eqB (T o.toNatClampNeg) (cB b3_) (cB b2) := by rw [eb3_]; exact eqB.cpy
  have gB_3 : gB b3_ = (0, o.toNatClampNeg) := by rw [eb3_]; exact gB_1
  have yB_3 : yB b3_ = T o.toNatClampNeg := by rw [eb3_]; exact yB_1
  refine lv_aload_n hx hb dX5_newVersion_17 rfl (lv_at hl 0 rfl) ?_
  refine lv_aload_n hx hb dX5_newVersion_18 rfl (lv_at hl 1 rfl) ?_
  have F_11 : f_8 (k 0) = some (.inr (5, [.ref (k 1), .int (nI n), .int ((lD D).1), .ref (k 2), .ref (k 5), .ref (k 13), .ref (k 21), .int ((lD D).2.1), .int ((lD D).2.2.1), .int ((lD D).2.2.2.1), .ref (k 3), .int ((lD D).2.2.2.2.1), .ref (k 4), .int ((lD D).2.2.2.2.2)])) := by have w_ := hM.c0; exact w_
  refine m_get (ci := 5) (v := .int ((lD D).1)) (C := RX5) (T := TX5) (N := 14) hx hb hC hH hts in_X5_newVersion_X5 hown F_11 rfl 2 (by decide) (hts (.fieldLink RX5 68 "LazyState" "heightNow" "I") (by decide +kernel)) rfl dX5_newVersion_19 ?_
  have F_12 : f_8 q_1 = some (.inr (2, [.int (nI (yB b3_)), .ref (caB b3_), .ref (iaB b3_), .int (siB b3_), va_rf (bfB b3_)])) := (hM.bf d4_).1
  have tI_12 : (nI (yB b3_)).toInt = ((yB b3_ : Nat) : Int) := nI_toInt (by rw [yB_3]; have := hT3_ o.toNatClampNeg; omega)
  refine m_put (ci := 2) (v := .int ((lD D).1)) (C := RX2) (T := TX2) (N := 5) hx hb hC hH hts in_X5_newVersion_X2 tyX2 tyX2_ok nmX2 hown F_12 rfl 3 (by decide) (hts (.fieldLink RX5 209 "LazyState$Body" "since" "I") (by decide +kernel)) rfl rfl rfl (Nat.le_of_ble_eq_true rfl) dX5_newVersion_22 (fun H locs hH => ?_)
  have hH : mH G s (va_up f_8 q_1 (some (.inr (2, [.int (nI (yB b3_)), .ref (caB b3_), .ref (iaB b3_), .int ((lD D).1), va_rf (bfB b3_)])))) H locs := hH
  obtain ⟨f_13, ef_13⟩ : ∃ zz_ : mF, zz_ = va_up f_8 q_1 (some (.inr (2, [.int (nI (yB b3_)), .ref (caB b3_), .ref (iaB b3_), .int ((lD D).1), va_rf (bfB b3_)]))) := ⟨_, rfl⟩
  rw [← ef_13] at hH
  rw [hlv] at ef_13
  have hfr := hfr.up (by rw [(hM.ob _ _ d4_).1]; exact (by decide : (2 : Nat) ≠ 0)) ef_13
  have hM := hM.setPb (a0 := q_1) (b0 := b3_) d4_ (si := hv) (bf := bfB b3_) ef_13
  rw [dB_dB] at hM
  obtain ⟨b4_, eb4_⟩ : ∃ b_ : tBo, b_ = (gB b3_, yB b3_, caB b3_, iaB b3_, hv, bfB b3_, cB b3_) := ⟨_, rfl⟩
  have hM : CM G k own_n n z (dB D q_1 b4_) f_13 := by rw [eb4_]; exact hM
  have d5_ : BD (dB D q_1 b4_) q_1 = some b4_ := va_up_self _ _ _
  have ec_ : eqB (T o.toNatClampNeg) (cB b4_) (cB b2) := by rw [eb4_]; exact ec_
  have gB_4 : gB b4_ = (0, o.toNatClampNeg) := by rw [eb4_]; exact gB_3
  have yB_4 : yB b4_ = T o.toNatClampNeg := by rw [eb4_]; exact yB_3
  have si_4 : siB b4_ = hv := by rw [eb4_]
  refine lv_aload_n hx hb dX5_newVersion_25 rfl (lv_at hl 0 rfl) ?_
  refine lv_aload_n hx hb dX5_newVersion_26 rfl (lv_at hl 1 rfl) ?_
  have F_14 : f_13 (k 0) = some (.inr (5, [.ref (k 1), .int (nI n), .int ((lD D).1), .ref (k 2), .ref (k 5), .ref (k 13), .ref (k 21), .int ((lD D).2.1), .int ((lD D).2.2.1), .int ((lD D).2.2.2.1), .ref (k 3), .int ((lD D).2.2.2.2.1), .ref (k 4), .int ((lD D).2.2.2.2.2)])) := by have w_ := hM.c0; exact w_
  refine m_get (ci := 5) (v := .ref (k 1)) (C := RX5) (T := TX5) (N := 14) hx hb hC hH hts in_X5_newVersion_X5 hown F_14 rfl 0 (by decide) (hts (.fieldLink RX5 11 "LazyState" "objects" "[LLazyState$Body;") (by decide +kernel)) rfl dX5_newVersion_27 ?_
  refine lv_iload_n hx hb dX5_newVersion_30 rfl (lv_at hl 2 rfl) ?_
  have hg_15 := hM.c1
  refine m_aald hx hb hC hH 3 rfl hg_15 (vp_in_iff.mpr ⟨by omega, by omega⟩) dX5_newVersion_31 ?_
  rw [show QD (dB D q_1 b4_) 1 o.toNatClampNeg = some a_ from ha_]
  have F_16 : f_13 q_1 = some (.inr (2, [.int (nI (yB b4_)), .ref (caB b4_), .ref (iaB b4_), .int (siB b4_), va_rf (bfB b4_)])) := (hM.bf d5_).1
  have tI_16 : (nI (yB b4_)).toInt = ((yB b4_ : Nat) : Int) := nI_toInt (by rw [yB_4]; have := hT3_ o.toNatClampNeg; omega)
  refine m_put (ci := 2) (v := .ref a_) (C := RX2) (T := TX2) (N := 5) hx hb hC hH hts in_X5_newVersion_X2 tyX2 tyX2_ok nmX2 hown F_16 rfl 4 (by decide) (hts (.fieldLink RX5 212 "LazyState$Body" "before" "LLazyState$Body;") (by decide +kernel)) rfl rfl rfl (Nat.le_of_ble_eq_true rfl) dX5_newVersion_32 (fun H locs hH => ?_)
  have hH : mH G s (va_up f_13 q_1 (some (.inr (2, [.int (nI (yB b4_)), .ref (caB b4_), .ref (iaB b4_), .int (siB b4_), .ref a_])))) H locs := hH
  obtain ⟨f_17, ef_17⟩ : ∃ zz_ : mF, zz_ = va_up f_13 q_1 (some (.inr (2, [.int (nI (yB b4_)), .ref (caB b4_), .ref (iaB b4_), .int (siB b4_), .ref a_]))) := ⟨_, rfl⟩
  rw [← ef_17] at hH
  have hfr := hfr.up (by rw [(hM.ob _ _ d5_).1]; exact (by decide : (2 : Nat) ≠ 0)) ef_17
  have hM := hM.setPb (a0 := q_1) (b0 := b4_) d5_ (si := siB b4_) (bf := some a_) ef_17
  rw [dB_dB] at hM
  obtain ⟨b5_, eb5_⟩ : ∃ b_ : tBo, b_ = (gB b4_, yB b4_, caB b4_, iaB b4_, siB b4_, some a_, cB b4_) := ⟨_, rfl⟩
  have hM : CM G k own_n n z (dB D q_1 b5_) f_17 := by rw [eb5_]; exact hM
  have d6_ : BD (dB D q_1 b5_) q_1 = some b5_ := va_up_self _ _ _
  have ec_ : eqB (T o.toNatClampNeg) (cB b5_) (cB b2) := by rw [eb5_]; exact ec_
  have gB_5 : gB b5_ = (0, o.toNatClampNeg) := by rw [eb5_]; exact gB_4
  have yB_5 : yB b5_ = T o.toNatClampNeg := by rw [eb5_]; exact yB_4
  have si_5 : siB b5_ = hv := by rw [eb5_]; exact si_4
  have bf_5 : bfB b5_ = some a_ := by rw [eb5_]
  refine lv_aload_n hx hb dX5_newVersion_35 rfl (lv_at hl 1 rfl) ?_
  have F_18 : f_17 (k 0) = some (.inr (5, [.ref (k 1), .int (nI n), .int ((lD D).1), .ref (k 2), .ref (k 5), .ref (k 13), .ref (k 21), .int ((lD D).2.1), .int ((lD D).2.2.1), .int ((lD D).2.2.2.1), .ref (k 3), .int ((lD D).2.2.2.2.1), .ref (k 4), .int ((lD D).2.2.2.2.2)])) := by have w_ := hM.c0; exact w_
  refine m_get (ci := 5) (v := .ref (k 1)) (C := RX5) (T := TX5) (N := 14) hx hb hC hH hts in_X5_newVersion_X5 hown F_18 rfl 0 (by decide) (hts (.fieldLink RX5 11 "LazyState" "objects" "[LLazyState$Body;") (by decide +kernel)) rfl dX5_newVersion_36 ?_
  refine lv_iload_n hx hb dX5_newVersion_39 rfl (lv_at hl 2 rfl) ?_
  refine lv_aload_n hx hb dX5_newVersion_40 rfl (lv_at hl 0 rfl) ?_
  have hg_19 := hM.c1
  have F_20 : f_17 q_1 = some (.inr (2, [.int (nI (yB b5_)), .ref (caB b5_), .ref (iaB b5_), .int (siB b5_), va_rf (bfB b5_)])) := (hM.bf d6_).1
  have tI_20 : (nI (yB b5_)).toInt = ((yB b5_ : Nat) : Int) := nI_toInt (by rw [yB_5]; have := hT3_ o.toNatClampNeg; omega)
  refine m_aast (ci := 2) hx hb hC hH 3 rfl hg_19 F_20 rfl (vp_in_iff.mpr ⟨by omega, by omega⟩) dX5_newVersion_41 (fun H locs hH => ?_)
  obtain ⟨f_21, ef_21⟩ : ∃ zz_ : mF, zz_ = va_up f_17 (k 1) (some (.inl (gk G 3, 24, .inr (.inr (.inr (.inr (va_up (QD (dB D q_1 b5_) 1) o.toNatClampNeg (some q_1)))))))) := ⟨_, rfl⟩
  rw [← ef_21] at hH
  have hfr := hfr.up (by rw [hM.ok 1 (by omega)]; exact (by decide : (1 : Nat) ≠ 0)) ef_21
  have hM := hM.setQ1 ef_21
  have hM : CM G k own_n n z (nvD D o.toNatClampNeg q_1 b5_) f_21 := hM
  refine lv_aload_n hx hb dX5_newVersion_42 rfl (lv_at hl 0 rfl) ?_
  exact m_aret (v := some q_1) hx hb hr hlk hC hH own_n ⟨q_1, b5_, hM, hfr, rfl, bn_, gB_5, yB_5, si_5, bf_5, ec_⟩ (by omega) (by omega) dX5_newVersion_43
set_option maxHeartbeats 4000000 in
set_option maxRecDepth 100000 in
theorem c_X5_changeCell (l : Launch) (G : mG) (k : Nat → Nat) (own : tR) (n : Nat) (T z : Nat → Nat) (A : Nat → tA) (hg : Nat) (ver : Nat → Nat → tB) (cq : Nat → Bool) (fe : Int32) (tms : Nat → Int32) (ca : Int32) (wl : List Nat) (wh : Int32) (ac th : Nat) (sx : Int32) (ld : Nat → Bool) (tr : List Nat) (gf : Int64) (D : tD) (f : mF) (hM : CM G k own n z D f) (hG : GC n T z A hg ver cq fe tms ca wl wh ac th sx ld tr gf D) (o j : Int32) (v : Int64) (ho : 0 ≤ o.toInt ∧ o.toInt < n) (hj8 : 0 ≤ j.toInt ∧ j.toInt < 8) (hs0 : srt (T o.toNatClampNeg) j.toNatClampNeg ≠ 0) (hs3 : srt (T o.toNatClampNeg) j.toNatClampNeg ≠ 3) (hs2 : srt (T o.toNatClampNeg) j.toNatClampNeg = 2 → v.toInt = -3 ∨ (0 ≤ v.toInt ∧ v.toInt < n)) : Met l yX5_changeCell wsX5_changeCell ({ frames := 3, cells := 3, slots := 29, locals := 104 }) (va_Pc [.ref (k 0), .int o, .int j, .long v] (mW G f)) (va_Qi (fun (r : Int32) (u : mS) => frD own f u.1 u.2 ∧ (((dif n T (ver hg) (va_up (ver hg) o.toNatClampNeg (setC (ver hg o.toNatClampNeg) j.toNatClampNeg v)) (8 * o.toNatClampNeg + j.toNatClampNeg)) = false ∧ r.toInt = hg ∧ (∃ D2, CM G k u.1 n z D2 u.2 ∧ GC n T z A hg ver cq fe tms ca wl wh ac th sx ld tr gf D2)) ∨ ((dif n T (ver hg) (va_up (ver hg) o.toNatClampNeg (setC (ver hg o.toNatClampNeg) j.toNatClampNeg v)) (8 * o.toNatClampNeg + j.toNatClampNeg)) = true ∧ hg = 40 ∧ r.toInt = -2 ∧ (∃ D2, CM G k u.1 n z D2 u.2 ∧ GC n T z A hg ver cq fe tms ca wl wh ac th sx ld tr gf D2)) ∨ ((dif n T (ver hg) (va_up (ver hg) o.toNatClampNeg (setC (ver hg o.toNatClampNeg) j.toNatClampNeg v)) (8 * o.toNatClampNeg + j.toNatClampNeg)) = true ∧ hg ≤ 39 ∧ r.toInt = (hg : Int) + 1 ∧ (∃ D2, CM G k u.1 n z D2 u.2 ∧ GC n T z A (hg + 1) (va_up ver (hg + 1) (va_up (ver hg) o.toNatClampNeg (setC (ver hg o.toNatClampNeg) j.toNatClampNeg v))) (fun _ => false) fe tms ca wl wh ac th sx ld tr gf D2)))) (fun (u : mS) t => mW G u.2 t) (mA G)) 3 29 (mA G) := by
  refine mMet [.ref (k 0), .int o, .int j, .long v] (cc := cX5_changeCell) (maxL := 5) (ret := (some .int)) (by decide) rfl (Nat.le_of_ble_eq_true rfl) ?_
  intro p e s m below meth c ls hx hb hr hml hts hown hlk hnm hC hH hl
  have hl : lv_has ls 5 [(0, .ref (k 0)), (1, .int o), (2, .int j), (3, .long v)] := hl
  have hfr : frD own f own f := frD.rf
  have cl_o := ic_clN (rfl : o.toInt = _) (by omega)
  have cl_j := ic_clN (rfl : j.toInt = _) (by omega)
  have n24_ := hG.bs.1
  have hT3_ := hG.bs.2
  have h40_ := hG.h40
  have wl_ := hG.wr.1
  obtain ⟨cb_1, hl_1, hcb_1⟩ := hG.ln
  obtain ⟨⟨lb_1, st_1, nx_1, hq0_1, hlb_1⟩, htr_1, hld_⟩ := hG.lt
  have hlen_ := len_b htr_1.1
  have ol_ := ocn_le tr
  have tn_1 : (nI n).toInt = ((n : Nat) : Int) := nI_toInt (by omega)
  have th_1 : (nI hg).toInt = ((hg : Nat) : Int) := nI_toInt (by omega)
  have tw_1 : (nI wl.length).toInt = ((wl.length : Nat) : Int) := nI_toInt (by omega)
  have te_1 : (eD D 0).1.toInt = ((tr.length : Nat) : Int) := by rw [htr_1.2.1]; exact nI_toInt (by omega)
  refine lv_aload_n hx hb dX5_changeCell_0 rfl (lv_at hl 0 rfl) ?_
  have F_2 : f (k 0) = some (.inr (5, [.ref (k 1), .int (nI n), .int (nI hg), .ref (k 2), .ref (k 5), .ref (k 13), .ref (k 21), .int ca, .int fe, .int cb_1, .ref (k 3), .int (nI wl.length), .ref (k 4), .int sx])) := by have w_ := hM.c0; rw [hl_1] at w_; exact w_
  refine m_get (ci := 5) (v := .ref (k 1)) (C := RX5) (T := TX5) (N := 14) hx hb hC hH hts in_X5_changeCell_X5 hown F_2 rfl 0 (by decide) (hts (.fieldLink RX5 11 "LazyState" "objects" "[LLazyState$Body;") (by decide +kernel)) rfl dX5_changeCell_1 ?_
  refine lv_iload_n hx hb dX5_changeCell_4 rfl (lv_at hl 1 rfl) ?_
  have hg_3 := hM.c1
  refine m_aald hx hb hC hH 3 rfl hg_3 (vp_in_iff.mpr ⟨by omega, by omega⟩) dX5_changeCell_5 ?_
  obtain ⟨so_4, boso_4, Lso_4, h1so_4, h2so_4, h3so_4, h4so_4, h5so_4, h6so_4⟩ := hG.obs.hd (o := o.toNatClampNeg) (by have := ic_clN (rfl : o.toInt = _) (by omega); omega)
  rw [h1so_4]
  have F_5 : f so_4 = some (.inr (2, [.int (nI (yB boso_4)), .ref (caB boso_4), .ref (iaB boso_4), .int (siB boso_4), va_rf (bfB boso_4)])) := (hM.bf h2so_4).1
  have tI_5 : (nI (yB boso_4)).toInt = ((yB boso_4 : Nat) : Int) := nI_toInt (by rw [h4so_4]; have := hT3_ o.toNatClampNeg; omega)
  refine m_get (ci := 2) (v := .ref (caB boso_4)) (C := RX2) (T := TX2) (N := 5) hx hb hC hH hts in_X5_changeCell_X2 hown F_5 rfl 1 (by decide) (hts (.fieldLink RX5 179 "LazyState$Body" "cells" "[J") (by decide +kernel)) rfl dX5_changeCell_6 ?_
  refine lv_iload_n hx hb dX5_changeCell_9 rfl (lv_at hl 2 rfl) ?_
  have hg_6 : f (caB boso_4) = some (.inl (gk G 1, 8, .inr (.inl ((cB boso_4).1)))) := (hM.bf h2so_4).2.1
  refine m_lald hx hb hC hH hg_6 (vp_in_iff.mpr ⟨by omega, by omega⟩) dX5_changeCell_10 ?_
  refine lv_topl (fun y_7 ey_7 => ?_)
  have cx_ : y_7 = (ver hg o.toNatClampNeg).1 j.toNatClampNeg := by rw [ey_7]; exact eqB_1 h5so_4 (by omega)
  refine lv_lload_n hx hb dX5_changeCell_11 rfl (lv_at hl 3 rfl) ?_
  refine W.lcmp hx hb dX5_changeCell_12 ?_
  refine lv_if_ne (tgt := 21) hx hb dX5_changeCell_13 (by decide) (fun c_8 => ?_) (fun c_8 => ?_)
  · skip
    have ic_8 : (y_7.toInt : Int) ≠ v.toInt := lc_ne rfl rfl (fun q_ => c_8 ((lg_cmp_eq _ _).mpr q_))
    have df_ : dif n T (ver hg) (va_up (ver hg) o.toNatClampNeg (setC (ver hg o.toNatClampNeg) j.toNatClampNeg v)) (8 * o.toNatClampNeg + j.toNatClampNeg) = true := by cases hd_ : dif n T (ver hg) (va_up (ver hg) o.toNatClampNeg (setC (ver hg o.toNatClampNeg) j.toNatClampNeg v)) (8 * o.toNatClampNeg + j.toNatClampNeg) with | true => rfl | false => exact absurd ((dif_C (by omega) (by omega) hs3).mp hd_) (fun z_ => by rw [← cx_] at z_; rw [z_] at ic_8; exact ic_8 rfl)
    refine lv_aload_n hx hb dX5_changeCell_21 rfl (lv_at hl 0 rfl) ?_
    refine m_get (ci := 5) (v := .int (nI hg)) (C := RX5) (T := TX5) (N := 14) hx hb hC hH hts in_X5_changeCell_X5 hown F_2 rfl 2 (by decide) (hts (.fieldLink RX5 68 "LazyState" "heightNow" "I") (by decide +kernel)) rfl dX5_changeCell_22 ?_
    refine lv_bipush (v := 40) hx hb dX5_changeCell_25 (by decide) ?_
    refine lv_icmp_lt (tgt := 33) hx hb dX5_changeCell_27 (by decide) (fun c_9 => ?_) (fun c_9 => ?_)
    · skip
      have ic_9 : (((hg : Nat) : Int) : Int) < 40 := ic_lt th_1 kI_40 c_9
      refine lv_aload_n hx hb dX5_changeCell_33 rfl (lv_at hl 0 rfl) ?_
      refine m_gov hH (va_runV (As := []) (rest := []) ⟨hx, hb, hml, hown, hts⟩ (c_X5_raiseHeight l G k own n T z D f hM n24_ hg h40_ ca fe cb_1 (nI wl.length) sx hl_1) (cwV 0 hts gX5_changeCell_X5_raiseHeight rfl rfl rfl (by decide +kernel) ⟨Nat.le_of_ble_eq_true rfl, Nat.le_of_ble_eq_true rfl⟩) (m_preV (ci := 5) hC hH F_2 rfl) rfl rfl hl.1 rfl (lv_room (Nat.le_of_ble_eq_true rfl)) dX5_changeCell_34 ⟨by show _ ≤ 3; omega, by show _ ≤ 29; omega⟩) (fun rho_12 f_11 H locs hw hH => ?_)
      obtain ⟨hM, hfr1⟩ := hw
      have hM : CM G k rho_12 n z (dL D (nI (hg + 1), ca, fe, 0, (nI wl.length), sx)) f_11 := hM
      have hfr1 : frD own f rho_12 f_11 := hfr1
      have hfr := hfr.trans hfr1
      refine lv_aload_n hx hb dX5_changeCell_37 rfl (lv_at hl 0 rfl) ?_
      refine lv_iload_n hx hb dX5_changeCell_38 rfl (lv_at hl 1 rfl) ?_
      refine lv_aload_n hx hb dX5_changeCell_39 rfl (lv_at hl 0 rfl) ?_
      have hh1_ : (nI (hg + 1)).toInt = ((hg : Nat) : Int) + 1 := by rw [nI_toInt (by omega)]; omega
      have F_13 : f_11 (k 0) = some (.inr (5, [.ref (k 1), .int (nI n), .int (nI (hg + 1)), .ref (k 2), .ref (k 5), .ref (k 13), .ref (k 21), .int ca, .int fe, .int 0, .ref (k 3), .int (nI wl.length), .ref (k 4), .int sx])) := hM.c0
      refine m_get (ci := 5) (v := .ref (k 1)) (C := RX5) (T := TX5) (N := 14) hx hb hC hH hts in_X5_changeCell_X5 hown F_13 rfl 0 (by decide) (hts (.fieldLink RX5 11 "LazyState" "objects" "[LLazyState$Body;") (by decide +kernel)) rfl dX5_changeCell_40 ?_
      refine lv_iload_n hx hb dX5_changeCell_43 rfl (lv_at hl 1 rfl) ?_
      have hg_14 := hM.c1
      refine m_aald hx hb hC hH 3 rfl hg_14 (vp_in_iff.mpr ⟨by omega, by omega⟩) dX5_changeCell_44 ?_
      rw [show QD (dL D (nI (hg + 1), ca, fe, 0, (nI wl.length), sx)) 1 o.toNatClampNeg = some so_4 from h1so_4]
      refine m_goq hH (va_runV (As := [.int o, .ref so_4]) (rest := []) ⟨hx, hb, hml, hown, hts⟩ (c_X5_newVersion l G k rho_12 n T z (dL D (nI (hg + 1), ca, fe, 0, (nI wl.length), sx)) f_11 hM n24_ hT3_ (nI (hg + 1)) rfl o (by omega) so_4 h1so_4 so_4 boso_4 h2so_4 h4so_4) (cwV 2 hts gX5_changeCell_X5_newVersion rfl rfl rfl (by decide +kernel) ⟨Nat.le_of_ble_eq_true rfl, Nat.le_of_ble_eq_true rfl⟩) (m_preV (ci := 5) hC hH F_13 rfl) rfl rfl hl.1 rfl (lv_room (Nat.le_of_ble_eq_true rfl)) dX5_changeCell_45 ⟨by show _ ≤ 3; omega, by show _ ≤ 29; omega⟩) (fun r_15 rho_17 f_16 H locs hw hH => ?_)
      obtain ⟨nq_, nb_, hM, hfr1, hnr_, nq1_, ng_, ny_, ns_, nf_, ne_⟩ := hw
      have hM : CM G k rho_17 n z (nvD (dL D (nI (hg + 1), ca, fe, 0, (nI wl.length), sx)) o.toNatClampNeg nq_ nb_) f_16 := hM
      have hfr1 : frD rho_12 f_11 rho_17 f_16 := hfr1
      have hfr := hfr.trans hfr1
      have hnr_ : r_15 = some nq_ := hnr_
      rw [hnr_]
      have nd_ : BD (nvD (dL D (nI (hg + 1), ca, fe, 0, (nI wl.length), sx)) o.toNatClampNeg nq_ nb_) nq_ = some nb_ := nvD_q
      have F_18 : f_16 nq_ = some (.inr (2, [.int (nI (yB nb_)), .ref (caB nb_), .ref (iaB nb_), .int (siB nb_), va_rf (bfB nb_)])) := (hM.bf nd_).1
      have tI_18 : (nI (yB nb_)).toInt = ((yB nb_ : Nat) : Int) := nI_toInt (by rw [ny_]; have := hT3_ o.toNatClampNeg; omega)
      refine m_get (ci := 2) (v := .ref (caB nb_)) (C := RX2) (T := TX2) (N := 5) hx hb hC hH hts in_X5_changeCell_X2 hown F_18 rfl 1 (by decide) (hts (.fieldLink RX5 179 "LazyState$Body" "cells" "[J") (by decide +kernel)) rfl dX5_changeCell_48 ?_
      refine lv_iload_n hx hb dX5_changeCell_51 rfl (lv_at hl 2 rfl) ?_
      refine lv_lload_n hx hb dX5_changeCell_52 rfl (lv_at hl 3 rfl) ?_
      have hg_19 : f_16 (caB nb_) = some (.inl (gk G 1, 8, .inr (.inl ((cB nb_).1)))) := (hM.bf nd_).2.1
      refine m_last hx hb hC hH hg_19 (vp_in_iff.mpr ⟨by omega, by omega⟩) dX5_changeCell_53 (fun H locs hH => ?_)
      obtain ⟨f_20, ef_20⟩ : ∃ zz_ : mF, zz_ = va_up f_16 (caB nb_) (some (.inl (gk G 1, 8, .inr (.inl (vp_updL (cB nb_).1 j.toNatClampNeg v))))) := ⟨_, rfl⟩
      rw [← ef_20] at hH
      have hfr := hfr.up (by rw [(hM.ob _ _ nd_).2.1]; exact (by decide : (3 : Nat) ≠ 0)) ef_20
      have hM := hM.setPc (a0 := nq_) (b0 := nb_) nd_ ef_20
      rw [nvD_st] at hM
      have hG := hG.nv1 (by omega) (o := o.toNatClampNeg) (q := nq_) (b := (stB nb_ (vp_updL (cB nb_).1 j.toNatClampNeg v, (cB nb_).2))) (c := (setC (ver hg o.toNatClampNeg) j.toNatClampNeg v)) (by omega) h1so_4 h6so_4 nq1_ ng_ ny_ ns_ nf_ ((eqB.setC (v := v) ne_).tr (eqB.setC h5so_4)) (okBd_C ((hG.obs o.toNatClampNeg (by omega)).1 hg (Nat.le_refl _)) hs0 hs3 hs2) rfl
      refine lv_aload_n hx hb dX5_changeCell_54 rfl (lv_at hl 0 rfl) ?_
      have hh1_ : (nI (hg + 1)).toInt = ((hg : Nat) : Int) + 1 := by rw [nI_toInt (by omega)]; omega
      have F_21 : f_20 (k 0) = some (.inr (5, [.ref (k 1), .int (nI n), .int (nI (hg + 1)), .ref (k 2), .ref (k 5), .ref (k 13), .ref (k 21), .int ca, .int fe, .int 0, .ref (k 3), .int (nI wl.length), .ref (k 4), .int sx])) := hM.c0
      refine m_get (ci := 5) (v := .int (nI (hg + 1))) (C := RX5) (T := TX5) (N := 14) hx hb hC hH hts in_X5_changeCell_X5 hown F_21 rfl 2 (by decide) (hts (.fieldLink RX5 68 "LazyState" "heightNow" "I") (by decide +kernel)) rfl dX5_changeCell_55 ?_
      exact m_iret (v := nI (hg + 1)) hx hb hr hlk hC hH rho_17 ⟨hfr, Or.inr (Or.inr ⟨df_, by omega, hh1_, _, hM, hG⟩)⟩ (by omega) (by omega) dX5_changeCell_58
    · skip
      have ic_9 : (((hg : Nat) : Int) : Int) ≥ 40 := ic_nlt th_1 kI_40 c_9
      refine lv_bipush (v := (-2)) hx hb dX5_changeCell_30 (by decide) ?_
      exact m_iret (v := (-2)) hx hb hr hlk hC hH own ⟨hfr, Or.inr (Or.inl ⟨df_, by omega, kI_m2, _, hM, hG⟩)⟩ (by omega) (by omega) dX5_changeCell_32
  · skip
    have ic_8 : (y_7.toInt : Int) = v.toInt := lc_eq rfl rfl ((lg_cmp_eq _ _).mp c_8)
    have df_ : dif n T (ver hg) (va_up (ver hg) o.toNatClampNeg (setC (ver hg o.toNatClampNeg) j.toNatClampNeg v)) (8 * o.toNatClampNeg + j.toNatClampNeg) = false := (dif_C (by omega) (by omega) hs3).mpr (by rw [← cx_]; exact Int64.toInt_inj.mp ic_8)
    refine lv_aload_n hx hb dX5_changeCell_16 rfl (lv_at hl 0 rfl) ?_
    refine m_get (ci := 5) (v := .int (nI hg)) (C := RX5) (T := TX5) (N := 14) hx hb hC hH hts in_X5_changeCell_X5 hown F_2 rfl 2 (by decide) (hts (.fieldLink RX5 68 "LazyState" "heightNow" "I") (by decide +kernel)) rfl dX5_changeCell_17 ?_
    exact m_iret (v := nI hg) hx hb hr hlk hC hH own ⟨hfr, Or.inl ⟨df_, th_1, _, hM, hG⟩⟩ (by omega) (by omega) dX5_changeCell_20
set_option maxHeartbeats 4000000 in
set_option maxRecDepth 100000 in
theorem c_X5_number (l : Launch) (G : mG) (k : Nat → Nat) (own : tR) (n : Nat) (T z : Nat → Nat) (A : Nat → tA) (hg : Nat) (ver : Nat → Nat → tB) (cq : Nat → Bool) (fe : Int32) (tms : Nat → Int32) (ca : Int32) (wl : List Nat) (wh : Int32) (ac th : Nat) (sx : Int32) (ld : Nat → Bool) (tr : List Nat) (gf : Int64) (D : tD) (f : mF) (hM : CM G k own n z D f) (hG : GC n T z A hg ver cq fe tms ca wl wh ac th sx ld tr gf D) (o j : Int32) (v : Int64) : Met l yX5_number wsX5_number ({ frames := 4, cells := 3, slots := 29, locals := 128 }) (va_Pc [.ref (k 0), .int o, .int j, .long v] (mW G f)) (va_Qi (fun (r : Int32) (u : mS) => frD own f u.1 u.2 ∧ ((¬ (0 ≤ o.toInt ∧ o.toInt < n ∧ 0 ≤ j.toInt ∧ j.toInt < 8 ∧ srt (T o.toNatClampNeg) j.toNatClampNeg = 1) ∧ r.toInt = -1 ∧ (∃ D2, CM G k u.1 n z D2 u.2 ∧ GC n T z A hg ver cq fe tms ca wl wh ac th sx ld tr gf D2)) ∨ ((0 ≤ o.toInt ∧ o.toInt < n ∧ 0 ≤ j.toInt ∧ j.toInt < 8 ∧ srt (T o.toNatClampNeg) j.toNatClampNeg = 1) ∧ (((dif n T (ver hg) (va_up (ver hg) o.toNatClampNeg (setC (ver hg o.toNatClampNeg) j.toNatClampNeg v)) (8 * o.toNatClampNeg + j.toNatClampNeg)) = false ∧ r.toInt = hg ∧ (∃ D2, CM G k u.1 n z D2 u.2 ∧ GC n T z A hg ver cq fe tms ca wl wh ac th sx ld tr gf D2)) ∨ ((dif n T (ver hg) (va_up (ver hg) o.toNatClampNeg (setC (ver hg o.toNatClampNeg) j.toNatClampNeg v)) (8 * o.toNatClampNeg + j.toNatClampNeg)) = true ∧ hg = 40 ∧ r.toInt = -2 ∧ (∃ D2, CM G k u.1 n z D2 u.2 ∧ GC n T z A hg ver cq fe tms ca wl wh ac th sx ld tr gf D2)) ∨ ((dif n T (ver hg) (va_up (ver hg) o.toNatClampNeg (setC (ver hg o.toNatClampNeg) j.toNatClampNeg v)) (8 * o.toNatClampNeg + j.toNatClampNeg)) = true ∧ hg ≤ 39 ∧ r.toInt = (hg : Int) + 1 ∧ (∃ D2, CM G k u.1 n z D2 u.2 ∧ GC n T z A (hg + 1) (va_up ver (hg + 1) (va_up (ver hg) o.toNatClampNeg (setC (ver hg o.toNatClampNeg) j.toNatClampNeg v))) (fun _ => false) fe tms ca wl wh ac th sx ld tr gf D2)))))) (fun (u : mS) t => mW G u.2 t) (mA G)) 3 29 (mA G) := by
  refine mMet [.ref (k 0), .int o, .int j, .long v] (cc := cX5_number) (maxL := 5) (ret := (some .int)) (by decide) rfl (Nat.le_of_ble_eq_true rfl) ?_
  intro p e s m below meth c ls hx hb hr hml hts hown hlk hnm hC hH hl
  have hl : lv_has ls 5 [(0, .ref (k 0)), (1, .int o), (2, .int j), (3, .long v)] := hl
  have hfr : frD own f own f := frD.rf
  have n24_ := hG.bs.1
  have hT3_ := hG.bs.2
  have h40_ := hG.h40
  have wl_ := hG.wr.1
  obtain ⟨cb_1, hl_1, hcb_1⟩ := hG.ln
  obtain ⟨⟨lb_1, st_1, nx_1, hq0_1, hlb_1⟩, htr_1, hld_⟩ := hG.lt
  have hlen_ := len_b htr_1.1
  have ol_ := ocn_le tr
  have tn_1 : (nI n).toInt = ((n : Nat) : Int) := nI_toInt (by omega)
  have th_1 : (nI hg).toInt = ((hg : Nat) : Int) := nI_toInt (by omega)
  have tw_1 : (nI wl.length).toInt = ((wl.length : Nat) : Int) := nI_toInt (by omega)
  have te_1 : (eD D 0).1.toInt = ((tr.length : Nat) : Int) := by rw [htr_1.2.1]; exact nI_toInt (by omega)
  refine lv_aload_n hx hb dX5_number_0 rfl (lv_at hl 0 rfl) ?_
  refine lv_iload_n hx hb dX5_number_1 rfl (lv_at hl 1 rfl) ?_
  refine lv_iload_n hx hb dX5_number_2 rfl (lv_at hl 2 rfl) ?_
  have F_5 : f (k 0) = some (.inr (5, [.ref (k 1), .int (nI n), .int (nI hg), .ref (k 2), .ref (k 5), .ref (k 13), .ref (k 21), .int ca, .int fe, .int cb_1, .ref (k 3), .int (nI wl.length), .ref (k 4), .int sx])) := by have w_ := hM.c0; rw [hl_1] at w_; exact w_
  refine m_goi hH (va_runV (As := [.int o, .int j]) (rest := []) ⟨hx, hb, hml, hown, hts⟩ (c_X5_sortAt l G k own n T z A hg ver cq fe tms ca wl wh ac th sx ld tr gf D f hM hG o j) (cwV 2 hts gX5_number_X5_sortAt rfl rfl rfl (by decide +kernel) ⟨Nat.le_of_ble_eq_true rfl, Nat.le_of_ble_eq_true rfl⟩) (m_preV (ci := 5) hC hH F_5 rfl) rfl rfl hl.1 rfl (lv_room (Nat.le_of_ble_eq_true rfl)) dX5_number_3 ⟨by show _ ≤ 3; omega, by show _ ≤ 29; omega⟩) (fun r_2 rho_4 f_3 H locs hw hH => ?_)
  obtain ⟨hu, hr_2⟩ := hw
  have hu : f_3 = f := hu
  rw [hu] at hH
  try dsimp only at hr_2
  refine lv_iconst (v := 1) hx hb dX5_number_6 (by decide) ?_
  refine lv_icmp_ne (tgt := 20) hx hb dX5_number_7 (by decide) (fun c_6 => ?_) (fun c_6 => ?_)
  · skip
    have ic_6 : (r_2.toInt : Int) ≠ 1 := ic_ne rfl kI_1 c_6
    have nm_ : ¬ (0 ≤ o.toInt ∧ o.toInt < n ∧ 0 ≤ j.toInt ∧ j.toInt < 8 ∧ srt (T o.toNatClampNeg) j.toNatClampNeg = 1) := fun z_ => by rcases hr_2 with ⟨a_, b_⟩ | ⟨a_, b_⟩; (have b3_ : r_2.toInt = _ := (congrArg Int32.toInt b_).trans (nI_toInt (by have := srt_b (T o.toNatClampNeg) (hT3_ _) j.toNatClampNeg (by have := ic_clN (rfl : j.toInt = _) (by omega); omega); omega)); omega); exact a_ (by omega)
    refine lv_iconst (v := (-1)) hx hb dX5_number_20 (by decide) ?_
    exact m_iret (v := (-1)) hx hb hr hlk hC hH own ⟨hfr, Or.inl ⟨nm_, kI_m1, _, hM, hG⟩⟩ (by omega) (by omega) dX5_number_21
  · skip
    have ic_6 : (r_2.toInt : Int) = 1 := ic_eq rfl kI_1 c_6
    obtain ⟨sa_, sb_⟩ := hr_2.resolve_right (fun q_ => by omega)
    have sI_ : r_2.toInt = ((srt (T o.toNatClampNeg) j.toNatClampNeg : Nat) : Int) := by rw [sb_]; exact nI_toInt (by have := srt_b (T o.toNatClampNeg) (hT3_ _) j.toNatClampNeg (by have := ic_clN (rfl : j.toInt = _) (by omega); omega); omega)
    have sm_ : srt (T o.toNatClampNeg) j.toNatClampNeg = 1 := by omega
    refine lv_aload_n hx hb dX5_number_10 rfl (lv_at hl 0 rfl) ?_
    refine lv_iload_n hx hb dX5_number_11 rfl (lv_at hl 1 rfl) ?_
    refine lv_iload_n hx hb dX5_number_12 rfl (lv_at hl 2 rfl) ?_
    refine lv_lload_n hx hb dX5_number_13 rfl (lv_at hl 3 rfl) ?_
    refine m_goi hH (va_runV (As := [.int o, .int j, .long v]) (rest := []) ⟨hx, hb, hml, hown, hts⟩ (c_X5_changeCell l G k own n T z A hg ver cq fe tms ca wl wh ac th sx ld tr gf D f hM hG o j v (by omega) (by omega) (by rw [sm_]; omega) (by rw [sm_]; omega) (fun z_ => by rw [sm_] at z_; omega)) (cwV 3 hts gX5_number_X5_changeCell rfl rfl rfl (by decide +kernel) ⟨Nat.le_of_ble_eq_true rfl, Nat.le_of_ble_eq_true rfl⟩) (m_preV (ci := 5) hC hH F_5 rfl) rfl rfl hl.1 rfl (lv_room (Nat.le_of_ble_eq_true rfl)) dX5_number_14 ⟨by show _ ≤ 3; omega, by show _ ≤ 29; omega⟩) (fun r_7 rho_9 f_8 H locs hw hH => ?_)
    obtain ⟨hfr1, hr_7⟩ := hw
    have hfr1 : frD own f rho_9 f_8 := hfr1
    have hfr := hfr.trans hfr1
    try dsimp only at hr_7
    refine lv_goto (tgt := 21) hx hb dX5_number_17 (by decide) ?_
    exact m_iret (v := r_7) hx hb hr hlk hC hH rho_9 ⟨hfr, Or.inr ⟨⟨by omega, by omega, by omega, by omega, sm_⟩, hr_7⟩⟩ (by omega) (by omega) dX5_number_21
set_option maxHeartbeats 4000000 in
set_option maxRecDepth 100000 in
theorem c_X5_link (l : Launch) (G : mG) (k : Nat → Nat) (own : tR) (n : Nat) (T z : Nat → Nat) (A : Nat → tA) (hg : Nat) (ver : Nat → Nat → tB) (cq : Nat → Bool) (fe : Int32) (tms : Nat → Int32) (ca : Int32) (wl : List Nat) (wh : Int32) (ac th : Nat) (sx : Int32) (ld : Nat → Bool) (tr : List Nat) (gf : Int64) (D : tD) (f : mF) (hM : CM G k own n z D f) (hG : GC n T z A hg ver cq fe tms ca wl wh ac th sx ld tr gf D) (o j p_ : Int32) : Met l yX5_link wsX5_link ({ frames := 4, cells := 3, slots := 29, locals := 128 }) (va_Pc [.ref (k 0), .int o, .int j, .int p_] (mW G f)) (va_Qi (fun (r : Int32) (u : mS) => frD own f u.1 u.2 ∧ ((¬ ((0 ≤ o.toInt ∧ o.toInt < n ∧ 0 ≤ j.toInt ∧ j.toInt < 8 ∧ srt (T o.toNatClampNeg) j.toNatClampNeg = 2) ∧ (p_.toInt = -3 ∨ (0 ≤ p_.toInt ∧ p_.toInt < n))) ∧ r.toInt = -1 ∧ (∃ D2, CM G k u.1 n z D2 u.2 ∧ GC n T z A hg ver cq fe tms ca wl wh ac th sx ld tr gf D2)) ∨ (((0 ≤ o.toInt ∧ o.toInt < n ∧ 0 ≤ j.toInt ∧ j.toInt < 8 ∧ srt (T o.toNatClampNeg) j.toNatClampNeg = 2) ∧ (p_.toInt = -3 ∨ (0 ≤ p_.toInt ∧ p_.toInt < n))) ∧ (((dif n T (ver hg) (va_up (ver hg) o.toNatClampNeg (setC (ver hg o.toNatClampNeg) j.toNatClampNeg p_.toInt64)) (8 * o.toNatClampNeg + j.toNatClampNeg)) = false ∧ r.toInt = hg ∧ (∃ D2, CM G k u.1 n z D2 u.2 ∧ GC n T z A hg ver cq fe tms ca wl wh ac th sx ld tr gf D2)) ∨ ((dif n T (ver hg) (va_up (ver hg) o.toNatClampNeg (setC (ver hg o.toNatClampNeg) j.toNatClampNeg p_.toInt64)) (8 * o.toNatClampNeg + j.toNatClampNeg)) = true ∧ hg = 40 ∧ r.toInt = -2 ∧ (∃ D2, CM G k u.1 n z D2 u.2 ∧ GC n T z A hg ver cq fe tms ca wl wh ac th sx ld tr gf D2)) ∨ ((dif n T (ver hg) (va_up (ver hg) o.toNatClampNeg (setC (ver hg o.toNatClampNeg) j.toNatClampNeg p_.toInt64)) (8 * o.toNatClampNeg + j.toNatClampNeg)) = true ∧ hg ≤ 39 ∧ r.toInt = (hg : Int) + 1 ∧ (∃ D2, CM G k u.1 n z D2 u.2 ∧ GC n T z A (hg + 1) (va_up ver (hg + 1) (va_up (ver hg) o.toNatClampNeg (setC (ver hg o.toNatClampNeg) j.toNatClampNeg p_.toInt64))) (fun _ => false) fe tms ca wl wh ac th sx ld tr gf D2)))))) (fun (u : mS) t => mW G u.2 t) (mA G)) 3 29 (mA G) := by
  refine mMet [.ref (k 0), .int o, .int j, .int p_] (cc := cX5_link) (maxL := 4) (ret := (some .int)) (by decide) rfl (Nat.le_of_ble_eq_true rfl) ?_
  intro p e s m below meth c ls hx hb hr hml hts hown hlk hnm hC hH hl
  have hl : lv_has ls 4 [(0, .ref (k 0)), (1, .int o), (2, .int j), (3, .int p_)] := hl
  have hfr : frD own f own f := frD.rf
  have n24_ := hG.bs.1
  have hT3_ := hG.bs.2
  have h40_ := hG.h40
  have wl_ := hG.wr.1
  obtain ⟨cb_1, hl_1, hcb_1⟩ := hG.ln
  obtain ⟨⟨lb_1, st_1, nx_1, hq0_1, hlb_1⟩, htr_1, hld_⟩ := hG.lt
  have hlen_ := len_b htr_1.1
  have ol_ := ocn_le tr
  have tn_1 : (nI n).toInt = ((n : Nat) : Int) := nI_toInt (by omega)
  have th_1 : (nI hg).toInt = ((hg : Nat) : Int) := nI_toInt (by omega)
  have tw_1 : (nI wl.length).toInt = ((wl.length : Nat) : Int) := nI_toInt (by omega)
  have te_1 : (eD D 0).1.toInt = ((tr.length : Nat) : Int) := by rw [htr_1.2.1]; exact nI_toInt (by omega)
  refine lv_aload_n hx hb dX5_link_0 rfl (lv_at hl 0 rfl) ?_
  refine lv_iload_n hx hb dX5_link_1 rfl (lv_at hl 1 rfl) ?_
  refine lv_iload_n hx hb dX5_link_2 rfl (lv_at hl 2 rfl) ?_
  have F_5 : f (k 0) = some (.inr (5, [.ref (k 1), .int (nI n), .int (nI hg), .ref (k 2), .ref (k 5), .ref (k 13), .ref (k 21), .int ca, .int fe, .int cb_1, .ref (k 3), .int (nI wl.length), .ref (k 4), .int sx])) := by have w_ := hM.c0; rw [hl_1] at w_; exact w_
  refine m_goi hH (va_runV (As := [.int o, .int j]) (rest := []) ⟨hx, hb, hml, hown, hts⟩ (c_X5_sortAt l G k own n T z A hg ver cq fe tms ca wl wh ac th sx ld tr gf D f hM hG o j) (cwV 2 hts gX5_link_X5_sortAt rfl rfl rfl (by decide +kernel) ⟨Nat.le_of_ble_eq_true rfl, Nat.le_of_ble_eq_true rfl⟩) (m_preV (ci := 5) hC hH F_5 rfl) rfl rfl hl.1 rfl (lv_room (Nat.le_of_ble_eq_true rfl)) dX5_link_3 ⟨by show _ ≤ 3; omega, by show _ ≤ 29; omega⟩) (fun r_2 rho_4 f_3 H locs hw hH => ?_)
  obtain ⟨hu, hr_2⟩ := hw
  have hu : f_3 = f := hu
  rw [hu] at hH
  try dsimp only at hr_2
  refine lv_iconst (v := 2) hx hb dX5_link_6 (by decide) ?_
  refine lv_icmp_ne (tgt := 24) hx hb dX5_link_7 (by decide) (fun c_6 => ?_) (fun c_6 => ?_)
  · skip
    have ic_6 : (r_2.toInt : Int) ≠ 2 := ic_ne rfl kI_2 c_6
    have nm_ : ¬ (0 ≤ o.toInt ∧ o.toInt < n ∧ 0 ≤ j.toInt ∧ j.toInt < 8 ∧ srt (T o.toNatClampNeg) j.toNatClampNeg = 2) := fun z_ => by rcases hr_2 with ⟨a_, b_⟩ | ⟨a_, b_⟩; (have b3_ : r_2.toInt = _ := (congrArg Int32.toInt b_).trans (nI_toInt (by have := srt_b (T o.toNatClampNeg) (hT3_ _) j.toNatClampNeg (by have := ic_clN (rfl : j.toInt = _) (by omega); omega); omega)); omega); exact a_ (by omega)
    refine lv_iconst (v := (-1)) hx hb dX5_link_24 (by decide) ?_
    exact m_iret (v := (-1)) hx hb hr hlk hC hH own ⟨hfr, Or.inl ⟨fun z_ => nm_ z_.1, kI_m1, _, hM, hG⟩⟩ (by omega) (by omega) dX5_link_25
  · skip
    have ic_6 : (r_2.toInt : Int) = 2 := ic_eq rfl kI_2 c_6
    obtain ⟨sa_, sb_⟩ := hr_2.resolve_right (fun q_ => by omega)
    have sI_ : r_2.toInt = ((srt (T o.toNatClampNeg) j.toNatClampNeg : Nat) : Int) := by rw [sb_]; exact nI_toInt (by have := srt_b (T o.toNatClampNeg) (hT3_ _) j.toNatClampNeg (by have := ic_clN (rfl : j.toInt = _) (by omega); omega); omega)
    have sm_ : srt (T o.toNatClampNeg) j.toNatClampNeg = 2 := by omega
    refine lv_iload_n hx hb dX5_link_10 rfl (lv_at hl 3 rfl) ?_
    refine lv_bipush (v := (-3)) hx hb dX5_link_11 (by decide) ?_
    refine lv_icmp_eq (tgt := 26) hx hb dX5_link_13 (by decide) (fun c_7 => ?_) (fun c_7 => ?_)
    · skip
      have ic_7 : (p_.toInt : Int) = (-3) := ic_eq rfl kI_m3 c_7
      refine lv_aload_n hx hb dX5_link_26 rfl (lv_at hl 0 rfl) ?_
      refine lv_iload_n hx hb dX5_link_27 rfl (lv_at hl 1 rfl) ?_
      refine lv_iload_n hx hb dX5_link_28 rfl (lv_at hl 2 rfl) ?_
      refine lv_iload_n hx hb dX5_link_29 rfl (lv_at hl 3 rfl) ?_
      refine lv_i2l hx hb dX5_link_30 rfl ?_
      refine lv_topl (fun y_8 ey_8 => ?_)
      have iy_8 : y_8.toInt = p_.toInt := lc_i2l ey_8 rfl
      have gy_8 := ic_rng p_
      refine m_goi hH (va_runV (As := [.int o, .int j, .long y_8]) (rest := []) ⟨hx, hb, hml, hown, hts⟩ (c_X5_changeCell l G k own n T z A hg ver cq fe tms ca wl wh ac th sx ld tr gf D f hM hG o j y_8 (by omega) (by omega) (by rw [sm_]; omega) (by rw [sm_]; omega) (fun z_ => by rw [sm_] at z_; omega)) (cwV 3 hts gX5_link_X5_changeCell rfl rfl rfl (by decide +kernel) ⟨Nat.le_of_ble_eq_true rfl, Nat.le_of_ble_eq_true rfl⟩) (m_preV (ci := 5) hC hH F_5 rfl) rfl rfl hl.1 rfl (lv_room (Nat.le_of_ble_eq_true rfl)) dX5_link_31 ⟨by show _ ≤ 3; omega, by show _ ≤ 29; omega⟩) (fun r_9 rho_11 f_10 H locs hw hH => ?_)
      obtain ⟨hfr1, hr_9⟩ := hw
      have hfr1 : frD own f rho_11 f_10 := hfr1
      have hfr := hfr.trans hfr1
      try dsimp only at hr_9
      exact m_iret (v := r_9) hx hb hr hlk hC hH rho_11 ⟨hfr, Or.inr ⟨⟨⟨by omega, by omega, by omega, by omega, sm_⟩, by omega⟩, by rw [ey_8] at hr_9; exact hr_9⟩⟩ (by omega) (by omega) dX5_link_34
    · skip
      have ic_7 : (p_.toInt : Int) ≠ (-3) := ic_ne rfl kI_m3 c_7
      refine lv_aload_n hx hb dX5_link_16 rfl (lv_at hl 0 rfl) ?_
      refine lv_iload_n hx hb dX5_link_17 rfl (lv_at hl 3 rfl) ?_
      refine m_goi hH (va_runV (As := [.int p_]) (rest := []) ⟨hx, hb, hml, hown, hts⟩ (c_X5_isObject l G k own n T z A hg ver cq fe tms ca wl wh ac th sx ld tr gf D f hM hG p_) (cwV 1 hts gX5_link_X5_isObject rfl rfl rfl (by decide +kernel) ⟨Nat.le_of_ble_eq_true rfl, Nat.le_of_ble_eq_true rfl⟩) (m_preV (ci := 5) hC hH F_5 rfl) rfl rfl hl.1 rfl (lv_room (Nat.le_of_ble_eq_true rfl)) dX5_link_18 ⟨by show _ ≤ 3; omega, by show _ ≤ 29; omega⟩) (fun r_12 rho_14 f_13 H locs hw hH => ?_)
      obtain ⟨hu, hr_12⟩ := hw
      have hu : f_13 = f := hu
      rw [hu] at hH
      try dsimp only at hr_12
      refine lv_if_ne (tgt := 26) hx hb dX5_link_21 (by decide) (fun c_15 => ?_) (fun c_15 => ?_)
      · skip
        have ic_15 : (r_12.toInt : Int) ≠ 0 := ic_ne rfl kI_0 c_15
        refine lv_aload_n hx hb dX5_link_26 rfl (lv_at hl 0 rfl) ?_
        refine lv_iload_n hx hb dX5_link_27 rfl (lv_at hl 1 rfl) ?_
        refine lv_iload_n hx hb dX5_link_28 rfl (lv_at hl 2 rfl) ?_
        refine lv_iload_n hx hb dX5_link_29 rfl (lv_at hl 3 rfl) ?_
        refine lv_i2l hx hb dX5_link_30 rfl ?_
        refine lv_topl (fun y_16 ey_16 => ?_)
        have iy_16 : y_16.toInt = p_.toInt := lc_i2l ey_16 rfl
        have gy_16 := ic_rng p_
        refine m_goi hH (va_runV (As := [.int o, .int j, .long y_16]) (rest := []) ⟨hx, hb, hml, hown, hts⟩ (c_X5_changeCell l G k own n T z A hg ver cq fe tms ca wl wh ac th sx ld tr gf D f hM hG o j y_16 (by omega) (by omega) (by rw [sm_]; omega) (by rw [sm_]; omega) (fun z_ => by rw [sm_] at z_; omega)) (cwV 3 hts gX5_link_X5_changeCell rfl rfl rfl (by decide +kernel) ⟨Nat.le_of_ble_eq_true rfl, Nat.le_of_ble_eq_true rfl⟩) (m_preV (ci := 5) hC hH F_5 rfl) rfl rfl hl.1 rfl (lv_room (Nat.le_of_ble_eq_true rfl)) dX5_link_31 ⟨by show _ ≤ 3; omega, by show _ ≤ 29; omega⟩) (fun r_17 rho_19 f_18 H locs hw hH => ?_)
        obtain ⟨hfr1, hr_17⟩ := hw
        have hfr1 : frD own f rho_19 f_18 := hfr1
        have hfr := hfr.trans hfr1
        try dsimp only at hr_17
        exact m_iret (v := r_17) hx hb hr hlk hC hH rho_19 ⟨hfr, Or.inr ⟨⟨⟨by omega, by omega, by omega, by omega, sm_⟩, by omega⟩, by rw [ey_16] at hr_17; exact hr_17⟩⟩ (by omega) (by omega) dX5_link_34
      · skip
        have ic_15 : (r_12.toInt : Int) = 0 := ic_eq rfl kI_0 c_15
        refine lv_iconst (v := (-1)) hx hb dX5_link_24 (by decide) ?_
        exact m_iret (v := (-1)) hx hb hr hlk hC hH own ⟨hfr, Or.inl ⟨fun z_ => by omega, kI_m1, _, hM, hG⟩⟩ (by omega) (by omega) dX5_link_25
set_option maxHeartbeats 4000000 in
set_option maxRecDepth 100000 in
theorem c_X5_row (l : Launch) (G : mG) (k : Nat → Nat) (own : tR) (n : Nat) (T z : Nat → Nat) (A : Nat → tA) (hg : Nat) (ver : Nat → Nat → tB) (cq : Nat → Bool) (fe : Int32) (tms : Nat → Int32) (ca : Int32) (wl : List Nat) (wh : Int32) (ac th : Nat) (sx : Int32) (ld : Nat → Bool) (tr : List Nat) (gf : Int64) (D : tD) (f : mF) (hM : CM G k own n z D f) (hG : GC n T z A hg ver cq fe tms ca wl wh ac th sx ld tr gf D) (o j q_ : Int32) : Met l yX5_row wsX5_row ({ frames := 3, cells := 3, slots := 29, locals := 104 }) (va_Pc [.ref (k 0), .int o, .int j, .int q_] (mW G f)) (va_Qi (fun (r : Int32) (u : mS) => frD own f u.1 u.2 ∧ ((¬ ((0 ≤ o.toInt ∧ o.toInt < n ∧ 0 ≤ j.toInt ∧ j.toInt < 8 ∧ srt (T o.toNatClampNeg) j.toNatClampNeg = 3) ∧ (q_.toInt = -3 ∨ (0 ≤ q_.toInt ∧ q_.toInt ≤ 8))) ∧ r.toInt = -1 ∧ (∃ D2, CM G k u.1 n z D2 u.2 ∧ GC n T z A hg ver cq fe tms ca wl wh ac th sx ld tr gf D2)) ∨ (((0 ≤ o.toInt ∧ o.toInt < n ∧ 0 ≤ j.toInt ∧ j.toInt < 8 ∧ srt (T o.toNatClampNeg) j.toNatClampNeg = 3) ∧ (q_.toInt = -3 ∨ (0 ≤ q_.toInt ∧ q_.toInt ≤ 8))) ∧ (((dif n T (ver hg) (va_up (ver hg) o.toNatClampNeg (renB (ver hg o.toNatClampNeg) j.toNatClampNeg q_.toInt64)) (8 * o.toNatClampNeg + j.toNatClampNeg)) = false ∧ r.toInt = hg ∧ (∃ D2, CM G k u.1 n z D2 u.2 ∧ GC n T z A hg ver cq fe tms ca wl wh ac th sx ld tr gf D2)) ∨ ((dif n T (ver hg) (va_up (ver hg) o.toNatClampNeg (renB (ver hg o.toNatClampNeg) j.toNatClampNeg q_.toInt64)) (8 * o.toNatClampNeg + j.toNatClampNeg)) = true ∧ hg = 40 ∧ r.toInt = -2 ∧ (∃ D2, CM G k u.1 n z D2 u.2 ∧ GC n T z A hg ver cq fe tms ca wl wh ac th sx ld tr gf D2)) ∨ ((dif n T (ver hg) (va_up (ver hg) o.toNatClampNeg (renB (ver hg o.toNatClampNeg) j.toNatClampNeg q_.toInt64)) (8 * o.toNatClampNeg + j.toNatClampNeg)) = true ∧ hg ≤ 39 ∧ r.toInt = (hg : Int) + 1 ∧ (∃ D2, CM G k u.1 n z D2 u.2 ∧ GC n T z A (hg + 1) (va_up ver (hg + 1) (va_up (ver hg) o.toNatClampNeg (renB (ver hg o.toNatClampNeg) j.toNatClampNeg q_.toInt64))) (fun _ => false) fe tms ca wl wh ac th sx ld tr gf D2)))))) (fun (u : mS) t => mW G u.2 t) (mA G)) 3 29 (mA G) := by
  refine mMet [.ref (k 0), .int o, .int j, .int q_] (cc := cX5_row) (maxL := 4) (ret := (some .int)) (by decide) rfl (Nat.le_of_ble_eq_true rfl) ?_
  intro p e s m below meth c ls hx hb hr hml hts hown hlk hnm hC hH hl
  have hl : lv_has ls 4 [(0, .ref (k 0)), (1, .int o), (2, .int j), (3, .int q_)] := hl
  have hfr : frD own f own f := frD.rf
  have n24_ := hG.bs.1
  have hT3_ := hG.bs.2
  have h40_ := hG.h40
  have wl_ := hG.wr.1
  obtain ⟨cb_1, hl_1, hcb_1⟩ := hG.ln
  obtain ⟨⟨lb_1, st_1, nx_1, hq0_1, hlb_1⟩, htr_1, hld_⟩ := hG.lt
  have hlen_ := len_b htr_1.1
  have ol_ := ocn_le tr
  have tn_1 : (nI n).toInt = ((n : Nat) : Int) := nI_toInt (by omega)
  have th_1 : (nI hg).toInt = ((hg : Nat) : Int) := nI_toInt (by omega)
  have tw_1 : (nI wl.length).toInt = ((wl.length : Nat) : Int) := nI_toInt (by omega)
  have te_1 : (eD D 0).1.toInt = ((tr.length : Nat) : Int) := by rw [htr_1.2.1]; exact nI_toInt (by omega)
  refine lv_aload_n hx hb dX5_row_0 rfl (lv_at hl 0 rfl) ?_
  refine lv_iload_n hx hb dX5_row_1 rfl (lv_at hl 1 rfl) ?_
  refine lv_iload_n hx hb dX5_row_2 rfl (lv_at hl 2 rfl) ?_
  have F_5 : f (k 0) = some (.inr (5, [.ref (k 1), .int (nI n), .int (nI hg), .ref (k 2), .ref (k 5), .ref (k 13), .ref (k 21), .int ca, .int fe, .int cb_1, .ref (k 3), .int (nI wl.length), .ref (k 4), .int sx])) := by have w_ := hM.c0; rw [hl_1] at w_; exact w_
  refine m_goi hH (va_runV (As := [.int o, .int j]) (rest := []) ⟨hx, hb, hml, hown, hts⟩ (c_X5_sortAt l G k own n T z A hg ver cq fe tms ca wl wh ac th sx ld tr gf D f hM hG o j) (cwV 2 hts gX5_row_X5_sortAt rfl rfl rfl (by decide +kernel) ⟨Nat.le_of_ble_eq_true rfl, Nat.le_of_ble_eq_true rfl⟩) (m_preV (ci := 5) hC hH F_5 rfl) rfl rfl hl.1 rfl (lv_room (Nat.le_of_ble_eq_true rfl)) dX5_row_3 ⟨by show _ ≤ 3; omega, by show _ ≤ 29; omega⟩) (fun r_2 rho_4 f_3 H locs hw hH => ?_)
  obtain ⟨hu, hr_2⟩ := hw
  have hu : f_3 = f := hu
  rw [hu] at hH
  try dsimp only at hr_2
  refine lv_iconst (v := 3) hx hb dX5_row_6 (by decide) ?_
  refine lv_icmp_ne (tgt := 26) hx hb dX5_row_7 (by decide) (fun c_6 => ?_) (fun c_6 => ?_)
  · skip
    have ic_6 : (r_2.toInt : Int) ≠ 3 := ic_ne rfl kI_3 c_6
    have nm_ : ¬ (0 ≤ o.toInt ∧ o.toInt < n ∧ 0 ≤ j.toInt ∧ j.toInt < 8 ∧ srt (T o.toNatClampNeg) j.toNatClampNeg = 3) := fun z_ => by rcases hr_2 with ⟨a_, b_⟩ | ⟨a_, b_⟩; (have b3_ : r_2.toInt = _ := (congrArg Int32.toInt b_).trans (nI_toInt (by have := srt_b (T o.toNatClampNeg) (hT3_ _) j.toNatClampNeg (by have := ic_clN (rfl : j.toInt = _) (by omega); omega); omega)); omega); exact a_ (by omega)
    refine lv_iconst (v := (-1)) hx hb dX5_row_26 (by decide) ?_
    exact m_iret (v := (-1)) hx hb hr hlk hC hH own ⟨hfr, Or.inl ⟨fun z_ => nm_ z_.1, kI_m1, _, hM, hG⟩⟩ (by omega) (by omega) dX5_row_27
  · skip
    have ic_6 : (r_2.toInt : Int) = 3 := ic_eq rfl kI_3 c_6
    obtain ⟨sa_, sb_⟩ := hr_2.resolve_right (fun q_ => by omega)
    have sI_ : r_2.toInt = ((srt (T o.toNatClampNeg) j.toNatClampNeg : Nat) : Int) := by rw [sb_]; exact nI_toInt (by have := srt_b (T o.toNatClampNeg) (hT3_ _) j.toNatClampNeg (by have := ic_clN (rfl : j.toInt = _) (by omega); omega); omega)
    have sm_ : srt (T o.toNatClampNeg) j.toNatClampNeg = 3 := by omega
    refine lv_iload_n hx hb dX5_row_10 rfl (lv_at hl 3 rfl) ?_
    refine lv_bipush (v := (-3)) hx hb dX5_row_11 (by decide) ?_
    refine lv_icmp_eq (tgt := 28) hx hb dX5_row_13 (by decide) (fun c_7 => ?_) (fun c_7 => ?_)
    · skip
      have ic_7 : (q_.toInt : Int) = (-3) := ic_eq rfl kI_m3 c_7
      refine lv_aload_n hx hb dX5_row_28 rfl (lv_at hl 0 rfl) ?_
      refine m_get (ci := 5) (v := .ref (k 1)) (C := RX5) (T := TX5) (N := 14) hx hb hC hH hts in_X5_row_X5 hown F_5 rfl 0 (by decide) (hts (.fieldLink RX5 11 "LazyState" "objects" "[LLazyState$Body;") (by decide +kernel)) rfl dX5_row_29 ?_
      refine lv_iload_n hx hb dX5_row_32 rfl (lv_at hl 1 rfl) ?_
      have hg_8 := hM.c1
      refine m_aald hx hb hC hH 3 rfl hg_8 (vp_in_iff.mpr ⟨by omega, by omega⟩) dX5_row_33 ?_
      obtain ⟨so_9, boso_9, Lso_9, h1so_9, h2so_9, h3so_9, h4so_9, h5so_9, h6so_9⟩ := hG.obs.hd (o := o.toNatClampNeg) (by have := ic_clN (rfl : o.toInt = _) (by omega); omega)
      rw [h1so_9]
      refine lv_iload_n hx hb dX5_row_34 rfl (lv_at hl 2 rfl) ?_
      refine lv_iload_n hx hb dX5_row_35 rfl (lv_at hl 3 rfl) ?_
      have F_13 : f so_9 = some (.inr (2, [.int (nI (yB boso_9)), .ref (caB boso_9), .ref (iaB boso_9), .int (siB boso_9), va_rf (bfB boso_9)])) := (hM.bf h2so_9).1
      have tI_13 : (nI (yB boso_9)).toInt = ((yB boso_9 : Nat) : Int) := nI_toInt (by rw [h4so_9]; have := hT3_ o.toNatClampNeg; omega)
      refine m_goi hH (va_runV (As := [.int j, .int q_]) (rest := []) ⟨hx, hb, hml, hown, hts⟩ (c_X2_hasBlankRow l G f so_9 boso_9 (hM.bf h2so_9) (by rw [h4so_9]; have := hT3_ o.toNatClampNeg; omega) j q_ (by omega)) (cwV 2 hts gX5_row_X2_hasBlankRow rfl rfl rfl (by decide +kernel) ⟨Nat.le_of_ble_eq_true rfl, Nat.le_of_ble_eq_true rfl⟩) (m_preV (ci := 2) hC hH F_13 rfl) rfl rfl hl.1 rfl (lv_room (Nat.le_of_ble_eq_true rfl)) dX5_row_36 ⟨by show _ ≤ 3; omega, by show _ ≤ 29; omega⟩) (fun r_10 rho_12 f_11 H locs hw hH => ?_)
      obtain ⟨hu, hr_10⟩ := hw
      have hu : f_11 = f := hu
      rw [hu] at hH
      try dsimp only at hr_10
      refine lv_if_eq (tgt := 47) hx hb dX5_row_39 (by decide) (fun c_14 => ?_) (fun c_14 => ?_)
      · skip
        have ic_14 : (r_10.toInt : Int) = 0 := ic_eq rfl kI_0 c_14
        have o_ := ic_clN (rfl : o.toInt = _) (by omega)
        have j_ := ic_clN (rfl : j.toInt = _) (by omega)
        have bk_ := (hr_10.resolve_left (fun z_ => by omega)).2
        have df_ : dif n T (ver hg) (va_up (ver hg) o.toNatClampNeg (renB (ver hg o.toNatClampNeg) j.toNatClampNeg q_.toInt64)) (8 * o.toNatClampNeg + j.toNatClampNeg) = true := by cases hd_ : dif n T (ver hg) (va_up (ver hg) o.toNatClampNeg (renB (ver hg o.toNatClampNeg) j.toNatClampNeg q_.toInt64)) (8 * o.toNatClampNeg + j.toNatClampNeg) with | true => rfl | false => exact absurd ((dif_R (by omega) (by omega) sm_).mp hd_) (fun z_ => bk_ ⟨(eqB_1 h5so_9 (by have := ic_clN (rfl : j.toInt = _) (by omega); omega)).trans z_.1, fun i_ hi_ => (eqB_2 h5so_9 (by have := ic_clN (rfl : j.toInt = _) (by omega); omega) sm_ hi_).trans (z_.2 i_ hi_)⟩)
        refine lv_aload_n hx hb dX5_row_47 rfl (lv_at hl 0 rfl) ?_
        refine m_get (ci := 5) (v := .int (nI hg)) (C := RX5) (T := TX5) (N := 14) hx hb hC hH hts in_X5_row_X5 hown F_5 rfl 2 (by decide) (hts (.fieldLink RX5 68 "LazyState" "heightNow" "I") (by decide +kernel)) rfl dX5_row_48 ?_
        refine lv_bipush (v := 40) hx hb dX5_row_51 (by decide) ?_
        refine lv_icmp_lt (tgt := 59) hx hb dX5_row_53 (by decide) (fun c_15 => ?_) (fun c_15 => ?_)
        · skip
          have ic_15 : (((hg : Nat) : Int) : Int) < 40 := ic_lt th_1 kI_40 c_15
          refine lv_aload_n hx hb dX5_row_59 rfl (lv_at hl 0 rfl) ?_
          refine m_gov hH (va_runV (As := []) (rest := []) ⟨hx, hb, hml, hown, hts⟩ (c_X5_raiseHeight l G k own n T z D f hM n24_ hg h40_ ca fe cb_1 (nI wl.length) sx hl_1) (cwV 0 hts gX5_row_X5_raiseHeight rfl rfl rfl (by decide +kernel) ⟨Nat.le_of_ble_eq_true rfl, Nat.le_of_ble_eq_true rfl⟩) (m_preV (ci := 5) hC hH F_5 rfl) rfl rfl hl.1 rfl (lv_room (Nat.le_of_ble_eq_true rfl)) dX5_row_60 ⟨by show _ ≤ 3; omega, by show _ ≤ 29; omega⟩) (fun rho_18 f_17 H locs hw hH => ?_)
          obtain ⟨hM, hfr1⟩ := hw
          have hM : CM G k rho_18 n z (dL D (nI (hg + 1), ca, fe, 0, (nI wl.length), sx)) f_17 := hM
          have hfr1 : frD own f rho_18 f_17 := hfr1
          have hfr := hfr.trans hfr1
          refine lv_aload_n hx hb dX5_row_63 rfl (lv_at hl 0 rfl) ?_
          refine lv_iload_n hx hb dX5_row_64 rfl (lv_at hl 1 rfl) ?_
          refine lv_aload_n hx hb dX5_row_65 rfl (lv_at hl 0 rfl) ?_
          have hh1_ : (nI (hg + 1)).toInt = ((hg : Nat) : Int) + 1 := by rw [nI_toInt (by omega)]; omega
          have F_19 : f_17 (k 0) = some (.inr (5, [.ref (k 1), .int (nI n), .int (nI (hg + 1)), .ref (k 2), .ref (k 5), .ref (k 13), .ref (k 21), .int ca, .int fe, .int 0, .ref (k 3), .int (nI wl.length), .ref (k 4), .int sx])) := hM.c0
          refine m_get (ci := 5) (v := .ref (k 1)) (C := RX5) (T := TX5) (N := 14) hx hb hC hH hts in_X5_row_X5 hown F_19 rfl 0 (by decide) (hts (.fieldLink RX5 11 "LazyState" "objects" "[LLazyState$Body;") (by decide +kernel)) rfl dX5_row_66 ?_
          refine lv_iload_n hx hb dX5_row_69 rfl (lv_at hl 1 rfl) ?_
          have hg_20 := hM.c1
          refine m_aald hx hb hC hH 3 rfl hg_20 (vp_in_iff.mpr ⟨by omega, by omega⟩) dX5_row_70 ?_
          rw [show QD (dL D (nI (hg + 1), ca, fe, 0, (nI wl.length), sx)) 1 o.toNatClampNeg = some so_9 from h1so_9]
          refine m_goq hH (va_runV (As := [.int o, .ref so_9]) (rest := []) ⟨hx, hb, hml, hown, hts⟩ (c_X5_newVersion l G k rho_18 n T z (dL D (nI (hg + 1), ca, fe, 0, (nI wl.length), sx)) f_17 hM n24_ hT3_ (nI (hg + 1)) rfl o (by omega) so_9 h1so_9 so_9 boso_9 h2so_9 h4so_9) (cwV 2 hts gX5_row_X5_newVersion rfl rfl rfl (by decide +kernel) ⟨Nat.le_of_ble_eq_true rfl, Nat.le_of_ble_eq_true rfl⟩) (m_preV (ci := 5) hC hH F_19 rfl) rfl rfl hl.1 rfl (lv_room (Nat.le_of_ble_eq_true rfl)) dX5_row_71 ⟨by show _ ≤ 3; omega, by show _ ≤ 29; omega⟩) (fun r_21 rho_23 f_22 H locs hw hH => ?_)
          obtain ⟨nq_, nb_, hM, hfr1, hnr_, nq1_, ng_, ny_, ns_, nf_, ne_⟩ := hw
          have hM : CM G k rho_23 n z (nvD (dL D (nI (hg + 1), ca, fe, 0, (nI wl.length), sx)) o.toNatClampNeg nq_ nb_) f_22 := hM
          have hfr1 : frD rho_18 f_17 rho_23 f_22 := hfr1
          have hfr := hfr.trans hfr1
          have hnr_ : r_21 = some nq_ := hnr_
          rw [hnr_]
          have nd_ : BD (nvD (dL D (nI (hg + 1), ca, fe, 0, (nI wl.length), sx)) o.toNatClampNeg nq_ nb_) nq_ = some nb_ := nvD_q
          refine lv_iload_n hx hb dX5_row_74 rfl (lv_at hl 2 rfl) ?_
          refine lv_iload_n hx hb dX5_row_75 rfl (lv_at hl 3 rfl) ?_
          have ob_ := hM.ob _ _ nd_
          have F_27 : f_22 nq_ = some (.inr (2, [.int (nI (yB nb_)), .ref (caB nb_), .ref (iaB nb_), .int (siB nb_), va_rf (bfB nb_)])) := (hM.bf nd_).1
          have tI_27 : (nI (yB nb_)).toInt = ((yB nb_ : Nat) : Int) := nI_toInt (by rw [ny_]; have := hT3_ o.toNatClampNeg; omega)
          refine m_gov hH (va_runV (As := [.int j, .int q_]) (rest := []) ⟨hx, hb, hml, hown, hts⟩ (c_X2_renewRow l G f_22 nq_ nb_ (hM.bf nd_) (by rw [ny_]; have := hT3_ o.toNatClampNeg; omega) (ow_ne ob_.1 ob_.2.1 (Or.inl (show (2 : Nat) ≠ 3 from by decide))) (ow_ne ob_.1 ob_.2.2 (Or.inl (show (2 : Nat) ≠ 4 from by decide))) (ow_ne ob_.2.1 ob_.2.2 (Or.inl (show (3 : Nat) ≠ 4 from by decide))) j q_ (by omega)) (cwV 2 hts gX5_row_X2_renewRow rfl rfl rfl (by decide +kernel) ⟨Nat.le_of_ble_eq_true rfl, Nat.le_of_ble_eq_true rfl⟩) (m_preV (ci := 2) hC hH F_27 rfl) rfl rfl hl.1 rfl (lv_room (Nat.le_of_ble_eq_true rfl)) dX5_row_76 ⟨by show _ ≤ 3; omega, by show _ ≤ 29; omega⟩) (fun rho_26 f_25 H locs hw hH => ?_)
          have eu_ : f_25 = va_up (va_up f_22 (caB nb_) (some (.inl (gk G 1, 8, .inr (.inl ((renB (cB nb_) j.toNatClampNeg q_.toInt64).1)))))) (iaB nb_) (some (.inl (gk G 0, 16, .inl ((renB (cB nb_) j.toNatClampNeg q_.toInt64).2)))) := hw
          have hfr := (hfr.up (x := caB nb_) (e := .inl (gk G 1, 8, .inr (.inl ((renB (cB nb_) j.toNatClampNeg q_.toInt64).1)))) (by rw [ob_.2.1]; exact (by decide : (3 : Nat) ≠ 0)) rfl).up (x := iaB nb_) (by rw [ob_.2.2]; exact (by decide : (4 : Nat) ≠ 0)) eu_
          have hM := (hM.setPc (a0 := nq_) (b0 := nb_) nd_ (g := (renB (cB nb_) j.toNatClampNeg q_.toInt64).1) rfl).setPi (a0 := nq_) (b0 := stB nb_ ((renB (cB nb_) j.toNatClampNeg q_.toInt64).1, (cB nb_).2)) (va_up_self _ _ _) (g := (renB (cB nb_) j.toNatClampNeg q_.toInt64).2) eu_
          rw [dB_dB, nvD_st] at hM
          have hM : CM G k rho_23 n z (dL (nvD D o.toNatClampNeg nq_ (stB nb_ (renB (cB nb_) j.toNatClampNeg q_.toInt64))) (nI (hg + 1), ca, fe, 0, (nI wl.length), sx)) f_25 := hM
          have qz_ : q_.toInt64.toInt = q_.toInt := Int32.toInt_toInt64 q_
          have hG := hG.nv1 (by omega) (o := o.toNatClampNeg) (q := nq_) (b := (stB nb_ (renB (cB nb_) j.toNatClampNeg q_.toInt64))) (c := (renB (ver hg o.toNatClampNeg) j.toNatClampNeg q_.toInt64)) (by omega) h1so_9 h6so_9 nq1_ ng_ ny_ ns_ nf_ ((eqB.ren (v := q_.toInt64) ne_).tr (eqB.ren h5so_9)) (okBd_ren (hT3_ _) (show j.toNatClampNeg < 8 from by omega) ((hG.obs o.toNatClampNeg (by omega)).1 hg (Nat.le_refl _)) sm_ (by omega)) rfl
          refine lv_aload_n hx hb dX5_row_79 rfl (lv_at hl 0 rfl) ?_
          have hh1_ : (nI (hg + 1)).toInt = ((hg : Nat) : Int) + 1 := by rw [nI_toInt (by omega)]; omega
          have F_28 : f_25 (k 0) = some (.inr (5, [.ref (k 1), .int (nI n), .int (nI (hg + 1)), .ref (k 2), .ref (k 5), .ref (k 13), .ref (k 21), .int ca, .int fe, .int 0, .ref (k 3), .int (nI wl.length), .ref (k 4), .int sx])) := hM.c0
          refine m_get (ci := 5) (v := .int (nI (hg + 1))) (C := RX5) (T := TX5) (N := 14) hx hb hC hH hts in_X5_row_X5 hown F_28 rfl 2 (by decide) (hts (.fieldLink RX5 68 "LazyState" "heightNow" "I") (by decide +kernel)) rfl dX5_row_80 ?_
          exact m_iret (v := nI (hg + 1)) hx hb hr hlk hC hH rho_23 ⟨hfr, Or.inr ⟨⟨⟨by omega, by omega, by omega, by omega, sm_⟩, by omega⟩, Or.inr (Or.inr ⟨df_, by omega, hh1_, _, hM, hG⟩)⟩⟩ (by omega) (by omega) dX5_row_83
        · skip
          have ic_15 : (((hg : Nat) : Int) : Int) ≥ 40 := ic_nlt th_1 kI_40 c_15
          refine lv_bipush (v := (-2)) hx hb dX5_row_56 (by decide) ?_
          exact m_iret (v := (-2)) hx hb hr hlk hC hH own ⟨hfr, Or.inr ⟨⟨⟨by omega, by omega, by omega, by omega, sm_⟩, by omega⟩, Or.inr (Or.inl ⟨df_, by omega, kI_m2, _, hM, hG⟩)⟩⟩ (by omega) (by omega) dX5_row_58
      · skip
        have ic_14 : (r_10.toInt : Int) ≠ 0 := ic_ne rfl kI_0 c_14
        have o_ := ic_clN (rfl : o.toInt = _) (by omega)
        have j_ := ic_clN (rfl : j.toInt = _) (by omega)
        have bk_ := (hr_10.resolve_right (fun z_ => by omega)).2
        have df_ : dif n T (ver hg) (va_up (ver hg) o.toNatClampNeg (renB (ver hg o.toNatClampNeg) j.toNatClampNeg q_.toInt64)) (8 * o.toNatClampNeg + j.toNatClampNeg) = false := (dif_R (by omega) (by omega) sm_).mpr ⟨(eqB_1 h5so_9 (by have := ic_clN (rfl : j.toInt = _) (by omega); omega)).symm.trans bk_.1, fun i_ hi_ => (eqB_2 h5so_9 (by have := ic_clN (rfl : j.toInt = _) (by omega); omega) sm_ hi_).symm.trans (bk_.2 i_ hi_)⟩
        refine lv_aload_n hx hb dX5_row_42 rfl (lv_at hl 0 rfl) ?_
        refine m_get (ci := 5) (v := .int (nI hg)) (C := RX5) (T := TX5) (N := 14) hx hb hC hH hts in_X5_row_X5 hown F_5 rfl 2 (by decide) (hts (.fieldLink RX5 68 "LazyState" "heightNow" "I") (by decide +kernel)) rfl dX5_row_43 ?_
        exact m_iret (v := nI hg) hx hb hr hlk hC hH own ⟨hfr, Or.inr ⟨⟨⟨by omega, by omega, by omega, by omega, sm_⟩, by omega⟩, Or.inl ⟨df_, th_1, _, hM, hG⟩⟩⟩ (by omega) (by omega) dX5_row_46
    · skip
      have ic_7 : (q_.toInt : Int) ≠ (-3) := ic_ne rfl kI_m3 c_7
      refine lv_iload_n hx hb dX5_row_16 rfl (lv_at hl 3 rfl) ?_
      refine lv_if_lt (tgt := 26) hx hb dX5_row_17 (by decide) (fun c_29 => ?_) (fun c_29 => ?_)
      · skip
        have ic_29 : (q_.toInt : Int) < 0 := ic_lt rfl kI_0 c_29
        refine lv_iconst (v := (-1)) hx hb dX5_row_26 (by decide) ?_
        exact m_iret (v := (-1)) hx hb hr hlk hC hH own ⟨hfr, Or.inl ⟨fun z_ => by omega, kI_m1, _, hM, hG⟩⟩ (by omega) (by omega) dX5_row_27
      · skip
        have ic_29 : (q_.toInt : Int) ≥ 0 := ic_nlt rfl kI_0 c_29
        refine lv_iload_n hx hb dX5_row_20 rfl (lv_at hl 3 rfl) ?_
        refine lv_bipush (v := 8) hx hb dX5_row_21 (by decide) ?_
        refine lv_icmp_le (tgt := 28) hx hb dX5_row_23 (by decide) (fun c_30 => ?_) (fun c_30 => ?_)
        · skip
          have ic_30 : (q_.toInt : Int) ≤ 8 := ic_le rfl kI_8 c_30
          refine lv_aload_n hx hb dX5_row_28 rfl (lv_at hl 0 rfl) ?_
          refine m_get (ci := 5) (v := .ref (k 1)) (C := RX5) (T := TX5) (N := 14) hx hb hC hH hts in_X5_row_X5 hown F_5 rfl 0 (by decide) (hts (.fieldLink RX5 11 "LazyState" "objects" "[LLazyState$Body;") (by decide +kernel)) rfl dX5_row_29 ?_
          refine lv_iload_n hx hb dX5_row_32 rfl (lv_at hl 1 rfl) ?_
          have hg_31 := hM.c1
          refine m_aald hx hb hC hH 3 rfl hg_31 (vp_in_iff.mpr ⟨by omega, by omega⟩) dX5_row_33 ?_
          obtain ⟨so_32, boso_32, Lso_32, h1so_32, h2so_32, h3so_32, h4so_32, h5so_32, h6so_32⟩ := hG.obs.hd (o := o.toNatClampNeg) (by have := ic_clN (rfl : o.toInt = _) (by omega); omega)
          rw [h1so_32]
          refine lv_iload_n hx hb dX5_row_34 rfl (lv_at hl 2 rfl) ?_
          refine lv_iload_n hx hb dX5_row_35 rfl (lv_at hl 3 rfl) ?_
          have F_36 : f so_32 = some (.inr (2, [.int (nI (yB boso_32)), .ref (caB boso_32), .ref (iaB boso_32), .int (siB boso_32), va_rf (bfB boso_32)])) := (hM.bf h2so_32).1
          have tI_36 : (nI (yB boso_32)).toInt = ((yB boso_32 : Nat) : Int) := nI_toInt (by rw [h4so_32]; have := hT3_ o.toNatClampNeg; omega)
          refine m_goi hH (va_runV (As := [.int j, .int q_]) (rest := []) ⟨hx, hb, hml, hown, hts⟩ (c_X2_hasBlankRow l G f so_32 boso_32 (hM.bf h2so_32) (by rw [h4so_32]; have := hT3_ o.toNatClampNeg; omega) j q_ (by omega)) (cwV 2 hts gX5_row_X2_hasBlankRow rfl rfl rfl (by decide +kernel) ⟨Nat.le_of_ble_eq_true rfl, Nat.le_of_ble_eq_true rfl⟩) (m_preV (ci := 2) hC hH F_36 rfl) rfl rfl hl.1 rfl (lv_room (Nat.le_of_ble_eq_true rfl)) dX5_row_36 ⟨by show _ ≤ 3; omega, by show _ ≤ 29; omega⟩) (fun r_33 rho_35 f_34 H locs hw hH => ?_)
          obtain ⟨hu, hr_33⟩ := hw
          have hu : f_34 = f := hu
          rw [hu] at hH
          try dsimp only at hr_33
          refine lv_if_eq (tgt := 47) hx hb dX5_row_39 (by decide) (fun c_37 => ?_) (fun c_37 => ?_)
          · skip
            have ic_37 : (r_33.toInt : Int) = 0 := ic_eq rfl kI_0 c_37
            have o_ := ic_clN (rfl : o.toInt = _) (by omega)
            have j_ := ic_clN (rfl : j.toInt = _) (by omega)
            have bk_ := (hr_33.resolve_left (fun z_ => by omega)).2
            have df_ : dif n T (ver hg) (va_up (ver hg) o.toNatClampNeg (renB (ver hg o.toNatClampNeg) j.toNatClampNeg q_.toInt64)) (8 * o.toNatClampNeg + j.toNatClampNeg) = true := by cases hd_ : dif n T (ver hg) (va_up (ver hg) o.toNatClampNeg (renB (ver hg o.toNatClampNeg) j.toNatClampNeg q_.toInt64)) (8 * o.toNatClampNeg + j.toNatClampNeg) with | true => rfl | false => exact absurd ((dif_R (by omega) (by omega) sm_).mp hd_) (fun z_ => bk_ ⟨(eqB_1 h5so_32 (by have := ic_clN (rfl : j.toInt = _) (by omega); omega)).trans z_.1, fun i_ hi_ => (eqB_2 h5so_32 (by have := ic_clN (rfl : j.toInt = _) (by omega); omega) sm_ hi_).trans (z_.2 i_ hi_)⟩)
            refine lv_aload_n hx hb dX5_row_47 rfl (lv_at hl 0 rfl) ?_
            refine m_get (ci := 5) (v := .int (nI hg)) (C := RX5) (T := TX5) (N := 14) hx hb hC hH hts in_X5_row_X5 hown F_5 rfl 2 (by decide) (hts (.fieldLink RX5 68 "LazyState" "heightNow" "I") (by decide +kernel)) rfl dX5_row_48 ?_
            refine lv_bipush (v := 40) hx hb dX5_row_51 (by decide) ?_
            refine lv_icmp_lt (tgt := 59) hx hb dX5_row_53 (by decide) (fun c_38 => ?_) (fun c_38 => ?_)
            · skip
              have ic_38 : (((hg : Nat) : Int) : Int) < 40 := ic_lt th_1 kI_40 c_38
              refine lv_aload_n hx hb dX5_row_59 rfl (lv_at hl 0 rfl) ?_
              refine m_gov hH (va_runV (As := []) (rest := []) ⟨hx, hb, hml, hown, hts⟩ (c_X5_raiseHeight l G k own n T z D f hM n24_ hg h40_ ca fe cb_1 (nI wl.length) sx hl_1) (cwV 0 hts gX5_row_X5_raiseHeight rfl rfl rfl (by decide +kernel) ⟨Nat.le_of_ble_eq_true rfl, Nat.le_of_ble_eq_true rfl⟩) (m_preV (ci := 5) hC hH F_5 rfl) rfl rfl hl.1 rfl (lv_room (Nat.le_of_ble_eq_true rfl)) dX5_row_60 ⟨by show _ ≤ 3; omega, by show _ ≤ 29; omega⟩) (fun rho_41 f_40 H locs hw hH => ?_)
              obtain ⟨hM, hfr1⟩ := hw
              have hM : CM G k rho_41 n z (dL D (nI (hg + 1), ca, fe, 0, (nI wl.length), sx)) f_40 := hM
              have hfr1 : frD own f rho_41 f_40 := hfr1
              have hfr := hfr.trans hfr1
              refine lv_aload_n hx hb dX5_row_63 rfl (lv_at hl 0 rfl) ?_
              refine lv_iload_n hx hb dX5_row_64 rfl (lv_at hl 1 rfl) ?_
              refine lv_aload_n hx hb dX5_row_65 rfl (lv_at hl 0 rfl) ?_
              have hh1_ : (nI (hg + 1)).toInt = ((hg : Nat) : Int) + 1 := by rw [nI_toInt (by omega)]; omega
              have F_42 : f_40 (k 0) = some (.inr (5, [.ref (k 1), .int (nI n), .int (nI (hg + 1)), .ref (k 2), .ref (k 5), .ref (k 13), .ref (k 21), .int ca, .int fe, .int 0, .ref (k 3), .int (nI wl.length), .ref (k 4), .int sx])) := hM.c0
              refine m_get (ci := 5) (v := .ref (k 1)) (C := RX5) (T := TX5) (N := 14) hx hb hC hH hts in_X5_row_X5 hown F_42 rfl 0 (by decide) (hts (.fieldLink RX5 11 "LazyState" "objects" "[LLazyState$Body;") (by decide +kernel)) rfl dX5_row_66 ?_
              refine lv_iload_n hx hb dX5_row_69 rfl (lv_at hl 1 rfl) ?_
              have hg_43 := hM.c1
              refine m_aald hx hb hC hH 3 rfl hg_43 (vp_in_iff.mpr ⟨by omega, by omega⟩) dX5_row_70 ?_
              rw [show QD (dL D (nI (hg + 1), ca, fe, 0, (nI wl.length), sx)) 1 o.toNatClampNeg = some so_32 from h1so_32]
              refine m_goq hH (va_runV (As := [.int o, .ref so_32]) (rest := []) ⟨hx, hb, hml, hown, hts⟩ (c_X5_newVersion l G k rho_41 n T z (dL D (nI (hg + 1), ca, fe, 0, (nI wl.length), sx)) f_40 hM n24_ hT3_ (nI (hg + 1)) rfl o (by omega) so_32 h1so_32 so_32 boso_32 h2so_32 h4so_32) (cwV 2 hts gX5_row_X5_newVersion rfl rfl rfl (by decide +kernel) ⟨Nat.le_of_ble_eq_true rfl, Nat.le_of_ble_eq_true rfl⟩) (m_preV (ci := 5) hC hH F_42 rfl) rfl rfl hl.1 rfl (lv_room (Nat.le_of_ble_eq_true rfl)) dX5_row_71 ⟨by show _ ≤ 3; omega, by show _ ≤ 29; omega⟩) (fun r_44 rho_46 f_45 H locs hw hH => ?_)
              obtain ⟨nq_, nb_, hM, hfr1, hnr_, nq1_, ng_, ny_, ns_, nf_, ne_⟩ := hw
              have hM : CM G k rho_46 n z (nvD (dL D (nI (hg + 1), ca, fe, 0, (nI wl.length), sx)) o.toNatClampNeg nq_ nb_) f_45 := hM
              have hfr1 : frD rho_41 f_40 rho_46 f_45 := hfr1
              have hfr := hfr.trans hfr1
              have hnr_ : r_44 = some nq_ := hnr_
              rw [hnr_]
              have nd_ : BD (nvD (dL D (nI (hg + 1), ca, fe, 0, (nI wl.length), sx)) o.toNatClampNeg nq_ nb_) nq_ = some nb_ := nvD_q
              refine lv_iload_n hx hb dX5_row_74 rfl (lv_at hl 2 rfl) ?_
              refine lv_iload_n hx hb dX5_row_75 rfl (lv_at hl 3 rfl) ?_
              have ob_ := hM.ob _ _ nd_
              have F_50 : f_45 nq_ = some (.inr (2, [.int (nI (yB nb_)), .ref (caB nb_), .ref (iaB nb_), .int (siB nb_), va_rf (bfB nb_)])) := (hM.bf nd_).1
              have tI_50 : (nI (yB nb_)).toInt = ((yB nb_ : Nat) : Int) := nI_toInt (by rw [ny_]; have := hT3_ o.toNatClampNeg; omega)
              refine m_gov hH (va_runV (As := [.int j, .int q_]) (rest := []) ⟨hx, hb, hml, hown, hts⟩ (c_X2_renewRow l G f_45 nq_ nb_ (hM.bf nd_) (by rw [ny_]; have := hT3_ o.toNatClampNeg; omega) (ow_ne ob_.1 ob_.2.1 (Or.inl (show (2 : Nat) ≠ 3 from by decide))) (ow_ne ob_.1 ob_.2.2 (Or.inl (show (2 : Nat) ≠ 4 from by decide))) (ow_ne ob_.2.1 ob_.2.2 (Or.inl (show (3 : Nat) ≠ 4 from by decide))) j q_ (by omega)) (cwV 2 hts gX5_row_X2_renewRow rfl rfl rfl (by decide +kernel) ⟨Nat.le_of_ble_eq_true rfl, Nat.le_of_ble_eq_true rfl⟩) (m_preV (ci := 2) hC hH F_50 rfl) rfl rfl hl.1 rfl (lv_room (Nat.le_of_ble_eq_true rfl)) dX5_row_76 ⟨by show _ ≤ 3; omega, by show _ ≤ 29; omega⟩) (fun rho_49 f_48 H locs hw hH => ?_)
              have eu_ : f_48 = va_up (va_up f_45 (caB nb_) (some (.inl (gk G 1, 8, .inr (.inl ((renB (cB nb_) j.toNatClampNeg q_.toInt64).1)))))) (iaB nb_) (some (.inl (gk G 0, 16, .inl ((renB (cB nb_) j.toNatClampNeg q_.toInt64).2)))) := hw
              have hfr := (hfr.up (x := caB nb_) (e := .inl (gk G 1, 8, .inr (.inl ((renB (cB nb_) j.toNatClampNeg q_.toInt64).1)))) (by rw [ob_.2.1]; exact (by decide : (3 : Nat) ≠ 0)) rfl).up (x := iaB nb_) (by rw [ob_.2.2]; exact (by decide : (4 : Nat) ≠ 0)) eu_
              have hM := (hM.setPc (a0 := nq_) (b0 := nb_) nd_ (g := (renB (cB nb_) j.toNatClampNeg q_.toInt64).1) rfl).setPi (a0 := nq_) (b0 := stB nb_ ((renB (cB nb_) j.toNatClampNeg q_.toInt64).1, (cB nb_).2)) (va_up_self _ _ _) (g := (renB (cB nb_) j.toNatClampNeg q_.toInt64).2) eu_
              rw [dB_dB, nvD_st] at hM
              have hM : CM G k rho_46 n z (dL (nvD D o.toNatClampNeg nq_ (stB nb_ (renB (cB nb_) j.toNatClampNeg q_.toInt64))) (nI (hg + 1), ca, fe, 0, (nI wl.length), sx)) f_48 := hM
              have qz_ : q_.toInt64.toInt = q_.toInt := Int32.toInt_toInt64 q_
              have hG := hG.nv1 (by omega) (o := o.toNatClampNeg) (q := nq_) (b := (stB nb_ (renB (cB nb_) j.toNatClampNeg q_.toInt64))) (c := (renB (ver hg o.toNatClampNeg) j.toNatClampNeg q_.toInt64)) (by omega) h1so_32 h6so_32 nq1_ ng_ ny_ ns_ nf_ ((eqB.ren (v := q_.toInt64) ne_).tr (eqB.ren h5so_32)) (okBd_ren (hT3_ _) (show j.toNatClampNeg < 8 from by omega) ((hG.obs o.toNatClampNeg (by omega)).1 hg (Nat.le_refl _)) sm_ (by omega)) rfl
              refine lv_aload_n hx hb dX5_row_79 rfl (lv_at hl 0 rfl) ?_
              have hh1_ : (nI (hg + 1)).toInt = ((hg : Nat) : Int) + 1 := by rw [nI_toInt (by omega)]; omega
              have F_51 : f_48 (k 0) = some (.inr (5, [.ref (k 1), .int (nI n), .int (nI (hg + 1)), .ref (k 2), .ref (k 5), .ref (k 13), .ref (k 21), .int ca, .int fe, .int 0, .ref (k 3), .int (nI wl.length), .ref (k 4), .int sx])) := hM.c0
              refine m_get (ci := 5) (v := .int (nI (hg + 1))) (C := RX5) (T := TX5) (N := 14) hx hb hC hH hts in_X5_row_X5 hown F_51 rfl 2 (by decide) (hts (.fieldLink RX5 68 "LazyState" "heightNow" "I") (by decide +kernel)) rfl dX5_row_80 ?_
              exact m_iret (v := nI (hg + 1)) hx hb hr hlk hC hH rho_46 ⟨hfr, Or.inr ⟨⟨⟨by omega, by omega, by omega, by omega, sm_⟩, by omega⟩, Or.inr (Or.inr ⟨df_, by omega, hh1_, _, hM, hG⟩)⟩⟩ (by omega) (by omega) dX5_row_83
            · skip
              have ic_38 : (((hg : Nat) : Int) : Int) ≥ 40 := ic_nlt th_1 kI_40 c_38
              refine lv_bipush (v := (-2)) hx hb dX5_row_56 (by decide) ?_
              exact m_iret (v := (-2)) hx hb hr hlk hC hH own ⟨hfr, Or.inr ⟨⟨⟨by omega, by omega, by omega, by omega, sm_⟩, by omega⟩, Or.inr (Or.inl ⟨df_, by omega, kI_m2, _, hM, hG⟩)⟩⟩ (by omega) (by omega) dX5_row_58
          · skip
            have ic_37 : (r_33.toInt : Int) ≠ 0 := ic_ne rfl kI_0 c_37
            have o_ := ic_clN (rfl : o.toInt = _) (by omega)
            have j_ := ic_clN (rfl : j.toInt = _) (by omega)
            have bk_ := (hr_33.resolve_right (fun z_ => by omega)).2
            have df_ : dif n T (ver hg) (va_up (ver hg) o.toNatClampNeg (renB (ver hg o.toNatClampNeg) j.toNatClampNeg q_.toInt64)) (8 * o.toNatClampNeg + j.toNatClampNeg) = false := (dif_R (by omega) (by omega) sm_).mpr ⟨(eqB_1 h5so_32 (by have := ic_clN (rfl : j.toInt = _) (by omega); omega)).symm.trans bk_.1, fun i_ hi_ => (eqB_2 h5so_32 (by have := ic_clN (rfl : j.toInt = _) (by omega); omega) sm_ hi_).symm.trans (bk_.2 i_ hi_)⟩
            refine lv_aload_n hx hb dX5_row_42 rfl (lv_at hl 0 rfl) ?_
            refine m_get (ci := 5) (v := .int (nI hg)) (C := RX5) (T := TX5) (N := 14) hx hb hC hH hts in_X5_row_X5 hown F_5 rfl 2 (by decide) (hts (.fieldLink RX5 68 "LazyState" "heightNow" "I") (by decide +kernel)) rfl dX5_row_43 ?_
            exact m_iret (v := nI hg) hx hb hr hlk hC hH own ⟨hfr, Or.inr ⟨⟨⟨by omega, by omega, by omega, by omega, sm_⟩, by omega⟩, Or.inl ⟨df_, th_1, _, hM, hG⟩⟩⟩ (by omega) (by omega) dX5_row_46
        · skip
          have ic_30 : (q_.toInt : Int) > 8 := ic_nle rfl kI_8 c_30
          refine lv_iconst (v := (-1)) hx hb dX5_row_26 (by decide) ?_
          exact m_iret (v := (-1)) hx hb hr hlk hC hH own ⟨hfr, Or.inl ⟨fun z_ => by omega, kI_m1, _, hM, hG⟩⟩ (by omega) (by omega) dX5_row_27
