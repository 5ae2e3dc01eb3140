set_option maxHeartbeats 4000000 in
set_option maxRecDepth 100000 in
theorem c_X6_copyLeaf (l : Launch) (G : mG) (h : Nat → Nat) (n : Nat) (c0 : tC) (I : Nat → Nat → Int32) (J : Nat → Nat → Int64) (f : mF) (hM : MEM G h n c0 I J f) (a b j : Int32) (ha : 0 ≤ a.toInt ∧ a.toInt ≤ 41) (hb_ : 0 ≤ b.toInt ∧ b.toInt ≤ 41) (hjj : 0 ≤ j.toInt ∧ j.toInt < 192) : Met l yX6_copyLeaf wsX6_copyLeaf ({ frames := 0, cells := 0, slots := 0, locals := 0 }) (va_Pc [.ref (h 0), .int a, .int b, .int j] (mW G f)) (va_Qv (fun (u : mS) => frM h f u.2 ∧ MEM G h n c0 (va_up (va_up I 4 (upd (I 4) (192 * b.toNatClampNeg + j.toNatClampNeg) (I 4 (192 * a.toNatClampNeg + j.toNatClampNeg)))) 5 (va_cpy (I 5) (I 5) (8 * (192 * a.toNatClampNeg + j.toNatClampNeg)) (8 * (192 * b.toNatClampNeg + j.toNatClampNeg)) 8)) (va_up J 3 (vp_updL (J 3) (192 * b.toNatClampNeg + j.toNatClampNeg) (J 3 (192 * a.toNatClampNeg + j.toNatClampNeg)))) u.2) (fun (u : mS) t => mW G u.2 t) (mA G)) 0 0 (mA G) := by
  refine mMet [.ref (h 0), .int a, .int b, .int j] (cc := cX6_copyLeaf) (maxL := 7) (ret := none) (by decide) rfl (Nat.le_of_ble_eq_true rfl) ?_
  intro p e s m below meth c ls hx hb hr hml hts hown hlk hnm hC hH hl
  have hl : lv_has ls 7 [(0, .ref (h 0)), (1, .int a), (2, .int b), (3, .int j)] := hl
  have hfr : frM h f f := frM.rf
  have cl_a := ic_clN (rfl : a.toInt = _) (by omega)
  have cl_b := ic_clN (rfl : b.toInt = _) (by omega)
  have cl_j := ic_clN (rfl : j.toInt = _) (by omega)
  refine lv_sipush (v := 192) hx hb dX6_copyLeaf_0 (by decide) ?_
  refine lv_iload_n hx hb dX6_copyLeaf_3 rfl (lv_at hl 1 rfl) ?_
  refine lv_imul hx hb dX6_copyLeaf_4 ?_
  refine lv_topi (fun x_1 ex_1 => ?_)
  have ix_1 : x_1.toInt = 192 * a.toInt := ic_mul ex_1 kI_192 rfl (by omega) (by omega)
  refine lv_iload_n hx hb dX6_copyLeaf_5 rfl (lv_at hl 3 rfl) ?_
  refine lv_iadd hx hb dX6_copyLeaf_6 ?_
  refine lv_topi (fun x_2 ex_2 => ?_)
  have ix_2 : x_2.toInt = x_1.toInt + j.toInt := ic_add ex_2 rfl rfl (by omega) (by omega)
  refine lv_istore (lv' := [(4, .int x_2), (0, .ref (h 0)), (1, .int a), (2, .int b), (3, .int j)]) hx hb dX6_copyLeaf_7 hl (by decide) rfl (fun ls hl => ?_)
  refine lv_sipush (v := 192) hx hb dX6_copyLeaf_9 (by decide) ?_
  refine lv_iload_n hx hb dX6_copyLeaf_12 rfl (lv_at hl 3 rfl) ?_
  refine lv_imul hx hb dX6_copyLeaf_13 ?_
  refine lv_topi (fun x_3 ex_3 => ?_)
  have ix_3 : x_3.toInt = 192 * b.toInt := ic_mul ex_3 kI_192 rfl (by omega) (by omega)
  refine lv_iload_n hx hb dX6_copyLeaf_14 rfl (lv_at hl 4 rfl) ?_
  refine lv_iadd hx hb dX6_copyLeaf_15 ?_
  refine lv_topi (fun x_4 ex_4 => ?_)
  have ix_4 : x_4.toInt = x_3.toInt + j.toInt := ic_add ex_4 rfl rfl (by omega) (by omega)
  refine lv_istore (lv' := [(5, .int x_4), (4, .int x_2), (0, .ref (h 0)), (1, .int a), (2, .int b), (3, .int j)]) hx hb dX6_copyLeaf_16 hl (by decide) rfl (fun ls hl => ?_)
  refine lv_aload_n hx hb dX6_copyLeaf_18 rfl (lv_at hl 2 rfl) ?_
  have F_5 : f (h 0) = some (.inr (6, [.int (nI n), .ref (h 1), .int c0.1, .ref (h 3), .ref (h 4), .ref (h 5), .ref (h 6), .int c0.2.1, .ref (h 8), .ref (h 9), .ref (h 10), .ref (h 11), .ref (h 12), .ref (h 13), .ref (h 14), .ref (h 15), .int c0.2.2.1, .long c0.2.2.2.1, .int c0.2.2.2.2.1, .int c0.2.2.2.2.2.1, .ref (h 20), .ref (h 21), .int c0.2.2.2.2.2.2.1, .ref (h 23), .ref (h 24), .int c0.2.2.2.2.2.2.2.1, .ref (h 26), .ref (h 27), .int c0.2.2.2.2.2.2.2.2.1, .int c0.2.2.2.2.2.2.2.2.2])) := hM.1
  refine m_get (ci := 6) (v := .ref (h 3)) (C := RX6) (T := TX6) (N := 30) hx hb hC hH hts in_X6_copyLeaf_X6 hown F_5 rfl 3 (by decide) (hts (.fieldLink RX6 13 "LazyStateModel" "numbers" "[J") (by decide +kernel)) rfl dX6_copyLeaf_19 ?_
  refine lv_iload hx hb dX6_copyLeaf_22 (lv_at hl 0 rfl) ?_
  refine lv_aload_n hx hb dX6_copyLeaf_24 rfl (lv_at hl 2 rfl) ?_
  refine m_get (ci := 6) (v := .ref (h 3)) (C := RX6) (T := TX6) (N := 30) hx hb hC hH hts in_X6_copyLeaf_X6 hown F_5 rfl 3 (by decide) (hts (.fieldLink RX6 13 "LazyStateModel" "numbers" "[J") (by decide +kernel)) rfl dX6_copyLeaf_25 ?_
  refine lv_iload hx hb dX6_copyLeaf_28 (lv_at hl 1 rfl) ?_
  have hg_6 : f (h 3) = some (.inl (gk G 1, 8064, .inr (.inl (J 3)))) := hM.2.2.1 3 (by decide) rfl
  refine m_lald hx hb hC hH hg_6 (vp_in_iff.mpr ⟨by omega, by omega⟩) dX6_copyLeaf_30 ?_
  refine lv_topl (fun y_7 ey_7 => ?_)
  refine m_last hx hb hC hH hg_6 (vp_in_iff.mpr ⟨by omega, by omega⟩) dX6_copyLeaf_31 (fun H locs hH => ?_)
  obtain ⟨f_8, ef_8⟩ : ∃ zz_ : mF, zz_ = va_up f (h 3) (some (.inl (gk G 1, 8064, .inr (.inl (vp_updL (J 3) x_4.toNatClampNeg y_7))))) := ⟨_, rfl⟩
  rw [← ef_8] at hH
  have hM : MEM G h n c0 I (va_up J 3 (vp_updL (J 3) x_4.toNatClampNeg y_7)) f_8 := hM.setJ 3 (by decide) rfl ef_8
  have hfr := hfr.up 3 (by decide) ef_8
  have nn_9 : x_4.toNatClampNeg = (192 * b.toNatClampNeg + j.toNatClampNeg) := by have := ic_clN (rfl : x_4.toInt = _) (by omega); omega
  have nn_10 : x_2.toNatClampNeg = (192 * a.toNatClampNeg + j.toNatClampNeg) := by have := ic_clN (rfl : x_2.toInt = _) (by omega); omega
  rw [nn_9, ey_7, nn_10] at hM
  refine lv_aload_n hx hb dX6_copyLeaf_32 rfl (lv_at hl 2 rfl) ?_
  have F_11 : f_8 (h 0) = some (.inr (6, [.int (nI n), .ref (h 1), .int c0.1, .ref (h 3), .ref (h 4), .ref (h 5), .ref (h 6), .int c0.2.1, .ref (h 8), .ref (h 9), .ref (h 10), .ref (h 11), .ref (h 12), .ref (h 13), .ref (h 14), .ref (h 15), .int c0.2.2.1, .long c0.2.2.2.1, .int c0.2.2.2.2.1, .int c0.2.2.2.2.2.1, .ref (h 20), .ref (h 21), .int c0.2.2.2.2.2.2.1, .ref (h 23), .ref (h 24), .int c0.2.2.2.2.2.2.2.1, .ref (h 26), .ref (h 27), .int c0.2.2.2.2.2.2.2.2.1, .int c0.2.2.2.2.2.2.2.2.2])) := hM.1
  refine m_get (ci := 6) (v := .ref (h 4)) (C := RX6) (T := TX6) (N := 30) hx hb hC hH hts in_X6_copyLeaf_X6 hown F_11 rfl 4 (by decide) (hts (.fieldLink RX6 17 "LazyStateModel" "sizes" "[I") (by decide +kernel)) rfl dX6_copyLeaf_33 ?_
  refine lv_iload hx hb dX6_copyLeaf_36 (lv_at hl 0 rfl) ?_
  refine lv_aload_n hx hb dX6_copyLeaf_38 rfl (lv_at hl 2 rfl) ?_
  refine m_get (ci := 6) (v := .ref (h 4)) (C := RX6) (T := TX6) (N := 30) hx hb hC hH hts in_X6_copyLeaf_X6 hown F_11 rfl 4 (by decide) (hts (.fieldLink RX6 17 "LazyStateModel" "sizes" "[I") (by decide +kernel)) rfl dX6_copyLeaf_39 ?_
  refine lv_iload hx hb dX6_copyLeaf_42 (lv_at hl 1 rfl) ?_
  have hg_12 : f_8 (h 4) = some (.inl (gk G 0, 8064, .inl (I 4))) := hM.2.1 4 (by decide) rfl
  refine m_iald hx hb hC hH hg_12 (vp_in_iff.mpr ⟨by omega, by omega⟩) dX6_copyLeaf_44 ?_
  refine lv_topi (fun x_13 ex_13 => ?_)
  refine m_iast hx hb hC hH hg_12 (vp_in_iff.mpr ⟨by omega, by omega⟩) dX6_copyLeaf_45 (fun H locs hH => ?_)
  obtain ⟨f_14, ef_14⟩ : ∃ zz_ : mF, zz_ = va_up f_8 (h 4) (some (.inl (gk G 0, 8064, .inl (upd (I 4) x_4.toNatClampNeg x_13)))) := ⟨_, rfl⟩
  rw [← ef_14] at hH
  have hM : MEM G h n c0 (va_up I 4 (upd (I 4) x_4.toNatClampNeg x_13)) (va_up J 3 (vp_updL (J 3) (192 * b.toNatClampNeg + j.toNatClampNeg) (J 3 (192 * a.toNatClampNeg + j.toNatClampNeg)))) f_14 := hM.setI 4 (by decide) rfl ef_14
  have hfr := hfr.up 4 (by decide) ef_14
  have nn_15 : x_4.toNatClampNeg = (192 * b.toNatClampNeg + j.toNatClampNeg) := by have := ic_clN (rfl : x_4.toInt = _) (by omega); omega
  have nn_16 : x_2.toNatClampNeg = (192 * a.toNatClampNeg + j.toNatClampNeg) := by have := ic_clN (rfl : x_2.toInt = _) (by omega); omega
  rw [nn_15, ex_13, nn_16] at hM
  refine lv_iconst (v := 0) hx hb dX6_copyLeaf_46 (by decide) ?_
  refine lv_istore (lv' := [(6, .int 0), (5, .int x_4), (4, .int x_2), (0, .ref (h 0)), (1, .int a), (2, .int b), (3, .int j)]) hx hb dX6_copyLeaf_47 hl (by decide) rfl (fun ls hl => ?_)
  have loop_49 : ∀ (fuel_ : Nat) (k6 : Int32) (fL : mF) (h0_ : 0 ≤ k6.toInt) (h1_ : k6.toInt ≤ 8) (hfr : frM h f fL) (hM : MEM G h n c0 (va_up (va_up I 4 (upd (I 4) (192 * b.toNatClampNeg + j.toNatClampNeg) (I 4 (192 * a.toNatClampNeg + j.toNatClampNeg)))) 5 (va_cpy (I 5) (I 5) (8 * (192 * a.toNatClampNeg + j.toNatClampNeg)) (8 * (192 * b.toNatClampNeg + j.toNatClampNeg)) k6.toNatClampNeg)) (va_up J 3 (vp_updL (J 3) (192 * b.toNatClampNeg + j.toNatClampNeg) (J 3 (192 * a.toNatClampNeg + j.toNatClampNeg)))) fL) (_ : ((8 : Int) - k6.toInt).toNat < fuel_) (H : Heap) (locs : List Loc) (ls : Array Slot) (_ : mH G s fL H locs) (_ : lv_has ls 7 [(0, .ref (h 0)), (1, .int a), (2, .int b), (3, .int j), (4, .int x_2), (5, .int x_4), (6, .int k6)]), W p l e ({ frames := 0, cells := 0, slots := 0, locals := 0 } : Room) s m ([.ref (h 0), .int a, .int b, .int j] : List Value).toArray below meth c H locs 0 0 (MQ below (va_Qv (fun (u : mS) => frM h f u.2 ∧ MEM G h n c0 (va_up (va_up I 4 (upd (I 4) (192 * b.toNatClampNeg + j.toNatClampNeg) (I 4 (192 * a.toNatClampNeg + j.toNatClampNeg)))) 5 (va_cpy (I 5) (I 5) (8 * (192 * a.toNatClampNeg + j.toNatClampNeg)) (8 * (192 * b.toNatClampNeg + j.toNatClampNeg)) 8)) (va_up J 3 (vp_updL (J 3) (192 * b.toNatClampNeg + j.toNatClampNeg) (J 3 (192 * a.toNatClampNeg + j.toNatClampNeg)))) u.2) (fun (u : mS) t => mW G u.2 t) (mA G)) ([.ref (h 0), .int a, .int b, .int j] : List Value).toArray s 0 0 (mA G)) (F0 m 49 ls []) := by
    intro N_49
    induction N_49 with
    | zero => intro k6 fL h0_ h1_ hfr hM hN; omega
    | succ N_49 ih_49 =>
      intro k6 fL h0_ h1_ hfr hM hN_49 H locs ls hH hl
      refine lv_iload hx hb dX6_copyLeaf_49 (lv_at hl 6 rfl) ?_
      refine lv_bipush (v := 8) hx hb dX6_copyLeaf_51 (by decide) ?_
      refine lv_icmp_ge (tgt := 88) hx hb dX6_copyLeaf_53 (by decide) (fun c_17 => ?_) (fun c_17 => ?_)
      · skip
        have ic_17 : (8 : Int) ≤ k6.toInt := ic_le kI_8 rfl c_17
        exact m_vret hx hb hr hlk hC hH (fun _ => (0, 0)) ⟨hfr, by have hk_ : k6.toNatClampNeg = 8 := (by have := ic_clN (rfl : k6.toInt = _) (by omega); omega); rw [hk_] at hM; exact hM⟩ (Nat.le_of_ble_eq_true rfl) (Nat.le_of_ble_eq_true rfl) dX6_copyLeaf_88
      · skip
        have ic_17 : (8 : Int) > k6.toInt := ic_nle kI_8 rfl c_17
        refine lv_aload_n hx hb dX6_copyLeaf_56 rfl (lv_at hl 0 rfl) ?_
        have F_18 : fL (h 0) = some (.inr (6, [.int (nI n), .ref (h 1), .int c0.1, .ref (h 3), .ref (h 4), .ref (h 5), .ref (h 6), .int c0.2.1, .ref (h 8), .ref (h 9), .ref (h 10), .ref (h 11), .ref (h 12), .ref (h 13), .ref (h 14), .ref (h 15), .int c0.2.2.1, .long c0.2.2.2.1, .int c0.2.2.2.2.1, .int c0.2.2.2.2.2.1, .ref (h 20), .ref (h 21), .int c0.2.2.2.2.2.2.1, .ref (h 23), .ref (h 24), .int c0.2.2.2.2.2.2.2.1, .ref (h 26), .ref (h 27), .int c0.2.2.2.2.2.2.2.2.1, .int c0.2.2.2.2.2.2.2.2.2])) := hM.1
        refine m_get (ci := 6) (v := .ref (h 5)) (C := RX6) (T := TX6) (N := 30) hx hb hC hH hts in_X6_copyLeaf_X6 hown F_18 rfl 5 (by decide) (hts (.fieldLink RX6 21 "LazyStateModel" "items" "[I") (by decide +kernel)) rfl dX6_copyLeaf_57 ?_
        refine lv_bipush (v := 8) hx hb dX6_copyLeaf_60 (by decide) ?_
        refine lv_iload hx hb dX6_copyLeaf_62 (lv_at hl 5 rfl) ?_
        refine lv_imul hx hb dX6_copyLeaf_64 ?_
        refine lv_topi (fun x_19 ex_19 => ?_)
        have ix_19 : x_19.toInt = 8 * x_4.toInt := ic_mul ex_19 kI_8 rfl (by omega) (by omega)
        refine lv_iload hx hb dX6_copyLeaf_65 (lv_at hl 6 rfl) ?_
        refine lv_iadd hx hb dX6_copyLeaf_67 ?_
        refine lv_topi (fun x_20 ex_20 => ?_)
        have ix_20 : x_20.toInt = x_19.toInt + k6.toInt := ic_add ex_20 rfl rfl (by omega) (by omega)
        refine lv_aload_n hx hb dX6_copyLeaf_68 rfl (lv_at hl 0 rfl) ?_
        refine m_get (ci := 6) (v := .ref (h 5)) (C := RX6) (T := TX6) (N := 30) hx hb hC hH hts in_X6_copyLeaf_X6 hown F_18 rfl 5 (by decide) (hts (.fieldLink RX6 21 "LazyStateModel" "items" "[I") (by decide +kernel)) rfl dX6_copyLeaf_69 ?_
        refine lv_bipush (v := 8) hx hb dX6_copyLeaf_72 (by decide) ?_
        refine lv_iload hx hb dX6_copyLeaf_74 (lv_at hl 4 rfl) ?_
        refine lv_imul hx hb dX6_copyLeaf_76 ?_
        refine lv_topi (fun x_21 ex_21 => ?_)
        have ix_21 : x_21.toInt = 8 * x_2.toInt := ic_mul ex_21 kI_8 rfl (by omega) (by omega)
        refine lv_iload hx hb dX6_copyLeaf_77 (lv_at hl 6 rfl) ?_
        refine lv_iadd hx hb dX6_copyLeaf_79 ?_
        refine lv_topi (fun x_22 ex_22 => ?_)
        have ix_22 : x_22.toInt = x_21.toInt + k6.toInt := ic_add ex_22 rfl rfl (by omega) (by omega)
        have hg_23 : fL (h 5) = some (.inl (gk G 0, 64512, .inl (va_cpy (I 5) (I 5) (8 * (192 * a.toNatClampNeg + j.toNatClampNeg)) (8 * (192 * b.toNatClampNeg + j.toNatClampNeg)) k6.toNatClampNeg))) := hM.2.1 5 (by decide) rfl
        refine m_iald hx hb hC hH hg_23 (vp_in_iff.mpr ⟨by omega, by omega⟩) dX6_copyLeaf_80 ?_
        refine lv_topi (fun x_24 ex_24 => ?_)
        refine m_iast hx hb hC hH hg_23 (vp_in_iff.mpr ⟨by omega, by omega⟩) dX6_copyLeaf_81 (fun H locs hH => ?_)
        obtain ⟨f_25, ef_25⟩ : ∃ zz_ : mF, zz_ = va_up fL (h 5) (some (.inl (gk G 0, 64512, .inl (upd (va_cpy (I 5) (I 5) (8 * (192 * a.toNatClampNeg + j.toNatClampNeg)) (8 * (192 * b.toNatClampNeg + j.toNatClampNeg)) k6.toNatClampNeg) x_20.toNatClampNeg x_24)))) := ⟨_, rfl⟩
        rw [← ef_25] at hH
        have hM : MEM G h n c0 (va_up (va_up (va_up I 4 (upd (I 4) (192 * b.toNatClampNeg + j.toNatClampNeg) (I 4 (192 * a.toNatClampNeg + j.toNatClampNeg)))) 5 (va_cpy (I 5) (I 5) (8 * (192 * a.toNatClampNeg + j.toNatClampNeg)) (8 * (192 * b.toNatClampNeg + j.toNatClampNeg)) k6.toNatClampNeg)) 5 (upd (va_cpy (I 5) (I 5) (8 * (192 * a.toNatClampNeg + j.toNatClampNeg)) (8 * (192 * b.toNatClampNeg + j.toNatClampNeg)) k6.toNatClampNeg) x_20.toNatClampNeg x_24)) (va_up J 3 (vp_updL (J 3) (192 * b.toNatClampNeg + j.toNatClampNeg) (J 3 (192 * a.toNatClampNeg + j.toNatClampNeg)))) f_25 := hM.setI 5 (by decide) rfl ef_25
        have hfr := hfr.up 5 (by decide) ef_25
        have nn_26 : x_20.toNatClampNeg = 8 * (192 * b.toNatClampNeg + j.toNatClampNeg) + k6.toNatClampNeg := by have := ic_clN (rfl : x_20.toInt = _) (by omega); have := ic_clN (rfl : k6.toInt = _) (by omega); omega
        have nn_27 : x_22.toNatClampNeg = 8 * (192 * a.toNatClampNeg + j.toNatClampNeg) + k6.toNatClampNeg := by have := ic_clN (rfl : x_22.toInt = _) (by omega); have := ic_clN (rfl : k6.toInt = _) (by omega); omega
        rw [nn_26, ex_24, nn_27, cpyI_step (N := 8) (by have := ic_clN (rfl : k6.toInt = _) (by omega); omega) (by omega), bx_uu] at hM
        obtain ⟨x_28, ex_28⟩ : ∃ y : Int32, y = k6 + 1 := ⟨_, rfl⟩
        have ix_28 : x_28.toInt = k6.toInt + 1 := ic_add ex_28 rfl kI_1 (by omega) (by omega)
        refine lv_iinc (v := x_28) (lv' := [(6, .int x_28), (0, .ref (h 0)), (1, .int a), (2, .int b), (3, .int j), (4, .int x_2), (5, .int x_4)]) hx hb dX6_copyLeaf_82 hl (k := 6) rfl (by rw [ex_28]; rfl) (by decide) rfl (fun ls hl => ?_)
        refine lv_goto (tgt := 49) hx hb dX6_copyLeaf_85 (by decide) ?_
        exact ih_49 x_28 f_25 (by omega) (by omega) hfr (by rw [show x_28.toNatClampNeg = k6.toNatClampNeg + 1 from by have := ic_clN (rfl : x_28.toInt = _) (by omega); have := ic_clN (rfl : k6.toInt = _) (by omega); omega]; exact hM) (by omega) _ _ _ hH (lv_sub hl [1, 2, 3, 4, 5, 6, 0] rfl)
  exact loop_49 (((8 : Int) - 0).toNat + 1) 0 f_14 (by have := kI_0; omega) (by have := kI_0; omega) hfr (by rw [show (0 : Int32).toNatClampNeg = 0 from rfl, cpy_0]; exact hM.idI 5) (by have := kI_0; omega) _ _ _ hH (lv_sub hl [3, 4, 5, 6, 2, 1, 0] rfl)
set_option maxHeartbeats 4000000 in
set_option maxRecDepth 100000 in
theorem c_X6_copyAll (l : Launch) (G : mG) (h : Nat → Nat) (n : Nat) (c0 : tC) (I : Nat → Nat → Int32) (J : Nat → Nat → Int64) (f : mF) (hM : MEM G h n c0 I J f) (a b : Int32) (ha : 0 ≤ a.toInt ∧ a.toInt ≤ 41) (hb_ : 0 ≤ b.toInt ∧ b.toInt ≤ 41) : Met l yX6_copyAll wsX6_copyAll ({ frames := 1, cells := 0, slots := 0, locals := 26 }) (va_Pc [.ref (h 0), .int a, .int b] (mW G f)) (va_Qv (fun (u : mS) => frM h f u.2 ∧ MEM G h n c0 (va_up (va_up I 4 (va_cpy (I 4) (I 4) (192 * a.toNatClampNeg) (192 * b.toNatClampNeg) 192)) 5 (va_cpy (I 5) (I 5) (1536 * a.toNatClampNeg) (1536 * b.toNatClampNeg) (8 * 192))) (va_up J 3 (va_cpy (J 3) (J 3) (192 * a.toNatClampNeg) (192 * b.toNatClampNeg) 192)) u.2) (fun (u : mS) t => mW G u.2 t) (mA G)) 0 0 (mA G) := by
  refine mMet [.ref (h 0), .int a, .int b] (cc := cX6_copyAll) (maxL := 4) (ret := none) (by decide) rfl (Nat.le_of_ble_eq_true rfl) ?_
  intro p e s m below meth c ls hx hb hr hml hts hown hlk hnm hC hH hl
  have hl : lv_has ls 4 [(0, .ref (h 0)), (1, .int a), (2, .int b)] := hl
  have hfr : frM h f f := frM.rf
  have cl_a := ic_clN (rfl : a.toInt = _) (by omega)
  have cl_b := ic_clN (rfl : b.toInt = _) (by omega)
  refine lv_iconst (v := 0) hx hb dX6_copyAll_0 (by decide) ?_
  refine lv_istore_n (lv' := [(3, .int 0), (0, .ref (h 0)), (1, .int a), (2, .int b)]) hx hb dX6_copyAll_1 rfl hl (by decide) rfl (fun ls hl => ?_)
  have loop_2 : ∀ (fuel_ : Nat) (k3 : Int32) (fL : mF) (h0_ : 0 ≤ k3.toInt) (h1_ : k3.toInt ≤ 192) (hfr : frM h f fL) (hM : MEM G h n c0 (va_up (va_up I 4 (va_cpy (I 4) (I 4) (192 * a.toNatClampNeg) (192 * b.toNatClampNeg) k3.toNatClampNeg)) 5 (va_cpy (I 5) (I 5) (1536 * a.toNatClampNeg) (1536 * b.toNatClampNeg) (8 * (k3.toNatClampNeg)))) (va_up J 3 (va_cpy (J 3) (J 3) (192 * a.toNatClampNeg) (192 * b.toNatClampNeg) k3.toNatClampNeg)) fL) (_ : ((192 : Int) - k3.toInt).toNat < fuel_) (H : Heap) (locs : List Loc) (ls : Array Slot) (_ : mH G s fL H locs) (_ : lv_has ls 4 [(0, .ref (h 0)), (1, .int a), (2, .int b), (3, .int k3)]), W p l e ({ frames := 1, cells := 0, slots := 0, locals := 26 } : Room) s m ([.ref (h 0), .int a, .int b] : List Value).toArray below meth c H locs 0 0 (MQ below (va_Qv (fun (u : mS) => frM h f u.2 ∧ MEM G h n c0 (va_up (va_up I 4 (va_cpy (I 4) (I 4) (192 * a.toNatClampNeg) (192 * b.toNatClampNeg) 192)) 5 (va_cpy (I 5) (I 5) (1536 * a.toNatClampNeg) (1536 * b.toNatClampNeg) (8 * 192))) (va_up J 3 (va_cpy (J 3) (J 3) (192 * a.toNatClampNeg) (192 * b.toNatClampNeg) 192)) u.2) (fun (u : mS) t => mW G u.2 t) (mA G)) ([.ref (h 0), .int a, .int b] : List Value).toArray s 0 0 (mA G)) (F0 m 2 ls []) := by
    intro N_2
    induction N_2 with
    | zero => intro k3 fL h0_ h1_ hfr hM hN; omega
    | succ N_2 ih_2 =>
      intro k3 fL h0_ h1_ hfr hM hN_2 H locs ls hH hl
      refine lv_iload_n hx hb dX6_copyAll_2 rfl (lv_at hl 3 rfl) ?_
      refine lv_sipush (v := 192) hx hb dX6_copyAll_3 (by decide) ?_
      refine lv_icmp_ge (tgt := 22) hx hb dX6_copyAll_6 (by decide) (fun c_1 => ?_) (fun c_1 => ?_)
      · skip
        have ic_1 : (192 : Int) ≤ k3.toInt := ic_le kI_192 rfl c_1
        exact m_vret hx hb hr hlk hC hH (fun _ => (0, 0)) ⟨hfr, by have hk_ : k3.toNatClampNeg = 192 := (by have := ic_clN (rfl : k3.toInt = _) (by omega); omega); rw [hk_] at hM; exact hM⟩ (Nat.le_of_ble_eq_true rfl) (Nat.le_of_ble_eq_true rfl) dX6_copyAll_22
      · skip
        have ic_1 : (192 : Int) > k3.toInt := ic_nle kI_192 rfl c_1
        refine lv_aload_n hx hb dX6_copyAll_9 rfl (lv_at hl 0 rfl) ?_
        refine lv_iload_n hx hb dX6_copyAll_10 rfl (lv_at hl 1 rfl) ?_
        refine lv_iload_n hx hb dX6_copyAll_11 rfl (lv_at hl 2 rfl) ?_
        refine lv_iload_n hx hb dX6_copyAll_12 rfl (lv_at hl 3 rfl) ?_
        have F_2 : fL (h 0) = some (.inr (6, [.int (nI n), .ref (h 1), .int c0.1, .ref (h 3), .ref (h 4), .ref (h 5), .ref (h 6), .int c0.2.1, .ref (h 8), .ref (h 9), .ref (h 10), .ref (h 11), .ref (h 12), .ref (h 13), .ref (h 14), .ref (h 15), .int c0.2.2.1, .long c0.2.2.2.1, .int c0.2.2.2.2.1, .int c0.2.2.2.2.2.1, .ref (h 20), .ref (h 21), .int c0.2.2.2.2.2.2.1, .ref (h 23), .ref (h 24), .int c0.2.2.2.2.2.2.2.1, .ref (h 26), .ref (h 27), .int c0.2.2.2.2.2.2.2.2.1, .int c0.2.2.2.2.2.2.2.2.2])) := hM.1
        refine m_gov hH (va_runV (As := [.int a, .int b, .int k3]) (rest := []) ⟨hx, hb, hml, hown, hts⟩ (c_X6_copyLeaf l G h n c0 (va_up (va_up I 4 (va_cpy (I 4) (I 4) (192 * a.toNatClampNeg) (192 * b.toNatClampNeg) k3.toNatClampNeg)) 5 (va_cpy (I 5) (I 5) (1536 * a.toNatClampNeg) (1536 * b.toNatClampNeg) (8 * k3.toNatClampNeg))) (va_up J 3 (va_cpy (J 3) (J 3) (192 * a.toNatClampNeg) (192 * b.toNatClampNeg) k3.toNatClampNeg)) fL hM a b k3 (by omega) (by omega) (by omega)) (cwV 3 hts gX6_copyAll_X6_copyLeaf rfl rfl rfl (by decide +kernel) ⟨Nat.le_of_ble_eq_true rfl, Nat.le_of_ble_eq_true rfl⟩) (m_preV (ci := 6) hC hH F_2 rfl) rfl rfl hl.1 rfl (lv_room (Nat.le_of_ble_eq_true rfl)) dX6_copyAll_13 ⟨Nat.le_of_ble_eq_true rfl, Nat.le_of_ble_eq_true rfl⟩) (fun rho_5 f_4 H locs hw hH => ?_)
        obtain ⟨hfr1, hM⟩ := hw
        have hfr1 : frM h fL f_4 := hfr1
        have hfr := hfr.trans hfr1
        have hM : MEM G h n c0 (va_up (va_up (va_up (va_up I 4 (va_cpy (I 4) (I 4) (192 * a.toNatClampNeg) (192 * b.toNatClampNeg) k3.toNatClampNeg)) 5 (va_cpy (I 5) (I 5) (1536 * a.toNatClampNeg) (1536 * b.toNatClampNeg) (8 * k3.toNatClampNeg))) 4 (upd (va_cpy (I 4) (I 4) (192 * a.toNatClampNeg) (192 * b.toNatClampNeg) k3.toNatClampNeg) (192 * b.toNatClampNeg + k3.toNatClampNeg) ((va_cpy (I 4) (I 4) (192 * a.toNatClampNeg) (192 * b.toNatClampNeg) k3.toNatClampNeg) (192 * a.toNatClampNeg + k3.toNatClampNeg)))) 5 (va_cpy (va_cpy (I 5) (I 5) (1536 * a.toNatClampNeg) (1536 * b.toNatClampNeg) (8 * k3.toNatClampNeg)) (va_cpy (I 5) (I 5) (1536 * a.toNatClampNeg) (1536 * b.toNatClampNeg) (8 * k3.toNatClampNeg)) (8 * (192 * a.toNatClampNeg + k3.toNatClampNeg)) (8 * (192 * b.toNatClampNeg + k3.toNatClampNeg)) 8)) (va_up (va_up J 3 (va_cpy (J 3) (J 3) (192 * a.toNatClampNeg) (192 * b.toNatClampNeg) k3.toNatClampNeg)) 3 (vp_updL (va_cpy (J 3) (J 3) (192 * a.toNatClampNeg) (192 * b.toNatClampNeg) k3.toNatClampNeg) (192 * b.toNatClampNeg + k3.toNatClampNeg) ((va_cpy (J 3) (J 3) (192 * a.toNatClampNeg) (192 * b.toNatClampNeg) k3.toNatClampNeg) (192 * a.toNatClampNeg + k3.toNatClampNeg)))) f_4 := hM
        have ck_ := ic_clN (rfl : k3.toInt = _) (by omega)
        have hM : MEM G h n c0 (va_up (va_up I 4 (va_cpy (I 4) (I 4) (192 * a.toNatClampNeg) (192 * b.toNatClampNeg) (k3.toNatClampNeg + 1))) 5 (va_cpy (I 5) (I 5) (1536 * a.toNatClampNeg) (1536 * b.toNatClampNeg) (8 * (k3.toNatClampNeg + 1)))) (va_up J 3 (va_cpy (J 3) (J 3) (192 * a.toNatClampNeg) (192 * b.toNatClampNeg) (k3.toNatClampNeg + 1))) f_4 := MEM.cpA (a := a.toNatClampNeg) (b := b.toNatClampNeg) (k := k3.toNatClampNeg) (by omega) hM
        obtain ⟨x_6, ex_6⟩ : ∃ y : Int32, y = k3 + 1 := ⟨_, rfl⟩
        have ix_6 : x_6.toInt = k3.toInt + 1 := ic_add ex_6 rfl kI_1 (by omega) (by omega)
        refine lv_iinc (v := x_6) (lv' := [(3, .int x_6), (0, .ref (h 0)), (1, .int a), (2, .int b)]) hx hb dX6_copyAll_16 hl (k := 3) rfl (by rw [ex_6]; rfl) (by decide) rfl (fun ls hl => ?_)
        refine lv_goto (tgt := 2) hx hb dX6_copyAll_19 (by decide) ?_
        exact ih_2 x_6 f_4 (by omega) (by omega) hfr (by rw [show x_6.toNatClampNeg = k3.toNatClampNeg + 1 from by have := ic_clN (rfl : x_6.toInt = _) (by omega); have := ic_clN (rfl : k3.toInt = _) (by omega); omega]; exact hM) (by omega) _ _ _ hH (lv_sub hl [1, 2, 3, 0] rfl)
  exact loop_2 (((192 : Int) - 0).toNat + 1) 0 f (by have := kI_0; omega) (by have := kI_0; omega) hfr (by rw [show (0 : Int32).toNatClampNeg = 0 from rfl]; exact MEM.cp0 hM) (by have := kI_0; omega) _ _ _ hH (lv_sub hl [1, 2, 3, 0] rfl)
set_option maxHeartbeats 4000000 in
set_option maxRecDepth 100000 in
theorem c_X6_areAlike (l : Launch) (G : mG) (h : Nat → Nat) (n : Nat) (c0 : tC) (I : Nat → Nat → Int32) (J : Nat → Nat → Int64) (f : mF) (hM : MEM G h n c0 I J f) (a b : Int32) (ha : 0 ≤ a.toInt ∧ a.toInt < 8064) (hb_ : 0 ≤ b.toInt ∧ b.toInt < 8064) (hs8 : (I 4 a.toNatClampNeg).toInt ≤ 8) : Met l yX6_areAlike wsX6_areAlike ({ frames := 0, cells := 0, slots := 0, locals := 0 }) (va_Pc [.ref (h 0), .int a, .int b] (mW G f)) (va_Qi (fun (r : Int32) (u : mS) => u.2 = f ∧ ((r.toInt = 1 ∧ (J 3 a.toNatClampNeg = J 3 b.toNatClampNeg ∧ I 4 a.toNatClampNeg = I 4 b.toNatClampNeg ∧ ∀ i : Nat, (i : Int) < (I 4 a.toNatClampNeg).toInt → I 5 (8 * a.toNatClampNeg + i) = I 5 (8 * b.toNatClampNeg + i))) ∨ (r.toInt = 0 ∧ ¬ (J 3 a.toNatClampNeg = J 3 b.toNatClampNeg ∧ I 4 a.toNatClampNeg = I 4 b.toNatClampNeg ∧ ∀ i : Nat, (i : Int) < (I 4 a.toNatClampNeg).toInt → I 5 (8 * a.toNatClampNeg + i) = I 5 (8 * b.toNatClampNeg + i))))) (fun (u : mS) t => mW G u.2 t) (mA G)) 0 0 (mA G) := by
  refine mMet [.ref (h 0), .int a, .int b] (cc := cX6_areAlike) (maxL := 5) (ret := (some .boolean)) (by decide) rfl (Nat.le_of_ble_eq_true rfl) ?_
  intro p e s m below meth c ls hx hb hr hml hts hown hlk hnm hC hH hl
  have hl : lv_has ls 5 [(0, .ref (h 0)), (1, .int a), (2, .int b)] := hl
  have hfr : frM h f f := frM.rf
  have cl_a := ic_clN (rfl : a.toInt = _) (by omega)
  have cl_b := ic_clN (rfl : b.toInt = _) (by omega)
  refine lv_aload_n hx hb dX6_areAlike_0 rfl (lv_at hl 0 rfl) ?_
  have F_1 : f (h 0) = some (.inr (6, [.int (nI n), .ref (h 1), .int c0.1, .ref (h 3), .ref (h 4), .ref (h 5), .ref (h 6), .int c0.2.1, .ref (h 8), .ref (h 9), .ref (h 10), .ref (h 11), .ref (h 12), .ref (h 13), .ref (h 14), .ref (h 15), .int c0.2.2.1, .long c0.2.2.2.1, .int c0.2.2.2.2.1, .int c0.2.2.2.2.2.1, .ref (h 20), .ref (h 21), .int c0.2.2.2.2.2.2.1, .ref (h 23), .ref (h 24), .int c0.2.2.2.2.2.2.2.1, .ref (h 26), .ref (h 27), .int c0.2.2.2.2.2.2.2.2.1, .int c0.2.2.2.2.2.2.2.2.2])) := hM.1
  refine m_get (ci := 6) (v := .ref (h 3)) (C := RX6) (T := TX6) (N := 30) hx hb hC hH hts in_X6_areAlike_X6 hown F_1 rfl 3 (by decide) (hts (.fieldLink RX6 13 "LazyStateModel" "numbers" "[J") (by decide +kernel)) rfl dX6_areAlike_1 ?_
  refine lv_iload_n hx hb dX6_areAlike_4 rfl (lv_at hl 1 rfl) ?_
  have hg_2 : f (h 3) = some (.inl (gk G 1, 8064, .inr (.inl (J 3)))) := hM.2.2.1 3 (by decide) rfl
  refine m_lald hx hb hC hH hg_2 (vp_in_iff.mpr ⟨by omega, by omega⟩) dX6_areAlike_5 ?_
  refine lv_topl (fun y_3 ey_3 => ?_)
  refine lv_aload_n hx hb dX6_areAlike_6 rfl (lv_at hl 0 rfl) ?_
  refine m_get (ci := 6) (v := .ref (h 3)) (C := RX6) (T := TX6) (N := 30) hx hb hC hH hts in_X6_areAlike_X6 hown F_1 rfl 3 (by decide) (hts (.fieldLink RX6 13 "LazyStateModel" "numbers" "[J") (by decide +kernel)) rfl dX6_areAlike_7 ?_
  refine lv_iload_n hx hb dX6_areAlike_10 rfl (lv_at hl 2 rfl) ?_
  refine m_lald hx hb hC hH hg_2 (vp_in_iff.mpr ⟨by omega, by omega⟩) dX6_areAlike_11 ?_
  refine lv_topl (fun y_4 ey_4 => ?_)
  refine W.lcmp hx hb dX6_areAlike_12 ?_
  refine lv_if_ne (tgt := 35) hx hb dX6_areAlike_13 (by decide) (fun c_5 => ?_) (fun c_5 => ?_)
  · skip
    have ic_5 : (y_3.toInt : Int) ≠ y_4.toInt := lc_ne rfl rfl (fun q_ => c_5 ((lg_cmp_eq _ _).mpr q_))
    have aj_ : ¬ J 3 a.toNatClampNeg = J 3 b.toNatClampNeg := fun q_ => by rw [← ey_3, ← ey_4] at q_; rw [q_] at ic_5; exact ic_5 rfl
    refine lv_iconst (v := 0) hx hb dX6_areAlike_35 (by decide) ?_
    refine lv_istore_n (lv' := [(3, .int 0), (0, .ref (h 0)), (1, .int a), (2, .int b)]) hx hb dX6_areAlike_36 rfl hl (by decide) rfl (fun ls hl => ?_)
    refine lv_iconst (v := 0) hx hb dX6_areAlike_37 (by decide) ?_
    refine lv_istore (lv' := [(4, .int 0), (3, .int 0), (0, .ref (h 0)), (1, .int a), (2, .int b)]) hx hb dX6_areAlike_38 hl (by decide) rfl (fun ls hl => ?_)
    have loop_40 : ∀ (fuel_ : Nat) (b3 : Int32) (k4 : Int32) (h0_ : 0 ≤ k4.toInt) (h1_ : k4.toInt ≤ 8) (hal_ : (((b3.toInt : Int) = 1 ∧ J 3 a.toNatClampNeg = J 3 b.toNatClampNeg ∧ I 4 a.toNatClampNeg = I 4 b.toNatClampNeg ∧ ∀ i : Nat, (i : Int) < k4.toInt → I 5 (8 * a.toNatClampNeg + i) = I 5 (8 * b.toNatClampNeg + i)) ∨ ((b3.toInt : Int) = 0 ∧ ¬ (J 3 a.toNatClampNeg = J 3 b.toNatClampNeg ∧ I 4 a.toNatClampNeg = I 4 b.toNatClampNeg ∧ ∀ i : Nat, (i : Int) < (I 4 a.toNatClampNeg).toInt → I 5 (8 * a.toNatClampNeg + i) = I 5 (8 * b.toNatClampNeg + i))))) (_ : ((8 : Int) - k4.toInt).toNat < fuel_) (H : Heap) (locs : List Loc) (ls : Array Slot) (_ : mH G s f H locs) (_ : lv_has ls 5 [(0, .ref (h 0)), (1, .int a), (2, .int b), (3, .int b3), (4, .int k4)]), W p l e ({ frames := 0, cells := 0, slots := 0, locals := 0 } : Room) s m ([.ref (h 0), .int a, .int b] : List Value).toArray below meth c H locs 0 0 (MQ below (va_Qi (fun (r : Int32) (u : mS) => u.2 = f ∧ ((r.toInt = 1 ∧ (J 3 a.toNatClampNeg = J 3 b.toNatClampNeg ∧ I 4 a.toNatClampNeg = I 4 b.toNatClampNeg ∧ ∀ i : Nat, (i : Int) < (I 4 a.toNatClampNeg).toInt → I 5 (8 * a.toNatClampNeg + i) = I 5 (8 * b.toNatClampNeg + i))) ∨ (r.toInt = 0 ∧ ¬ (J 3 a.toNatClampNeg = J 3 b.toNatClampNeg ∧ I 4 a.toNatClampNeg = I 4 b.toNatClampNeg ∧ ∀ i : Nat, (i : Int) < (I 4 a.toNatClampNeg).toInt → I 5 (8 * a.toNatClampNeg + i) = I 5 (8 * b.toNatClampNeg + i))))) (fun (u : mS) t => mW G u.2 t) (mA G)) ([.ref (h 0), .int a, .int b] : List Value).toArray s 0 0 (mA G)) (F0 m 40 ls []) := by
      intro N_40
      induction N_40 with
      | zero => intro b3 k4 h0_ h1_ hal_ hN; omega
      | succ N_40 ih_40 =>
        intro b3 k4 h0_ h1_ hal_ hN_40 H locs ls hH hl
        refine lv_iload hx hb dX6_areAlike_40 (lv_at hl 4 rfl) ?_
        refine lv_aload_n hx hb dX6_areAlike_42 rfl (lv_at hl 0 rfl) ?_
        refine m_get (ci := 6) (v := .ref (h 4)) (C := RX6) (T := TX6) (N := 30) hx hb hC hH hts in_X6_areAlike_X6 hown F_1 rfl 4 (by decide) (hts (.fieldLink RX6 17 "LazyStateModel" "sizes" "[I") (by decide +kernel)) rfl dX6_areAlike_43 ?_
        refine lv_iload_n hx hb dX6_areAlike_46 rfl (lv_at hl 1 rfl) ?_
        have hg_6 : f (h 4) = some (.inl (gk G 0, 8064, .inl (I 4))) := hM.2.1 4 (by decide) rfl
        refine m_iald hx hb hC hH hg_6 (vp_in_iff.mpr ⟨by omega, by omega⟩) dX6_areAlike_47 ?_
        refine lv_topi (fun x_7 ex_7 => ?_)
        refine lv_icmp_ge (tgt := 94) hx hb dX6_areAlike_48 (by decide) (fun c_8 => ?_) (fun c_8 => ?_)
        · skip
          have ic_8 : (x_7.toInt : Int) ≤ k4.toInt := ic_le rfl rfl c_8
          refine lv_iload_n hx hb dX6_areAlike_94 rfl (lv_at hl 3 rfl) ?_
          exact m_zret (v := b3) hx hb hr (ic_nar _ (by omega)) hlk hC hH (fun _ => (0, 0)) ⟨rfl, hal_.elim (fun q_ => Or.inl ⟨q_.1, q_.2.1, q_.2.2.1, fun i_ hi_ => q_.2.2.2 i_ (by have hs_ := congrArg Int32.toInt ex_7; omega)⟩) (fun q_ => Or.inr q_)⟩ (Nat.le_of_ble_eq_true rfl) (Nat.le_of_ble_eq_true rfl) dX6_areAlike_95
        · skip
          have ic_8 : (x_7.toInt : Int) > k4.toInt := ic_nle rfl rfl c_8
          have sb_ : x_7.toInt ≤ 8 := by rw [ex_7]; exact hs8
          refine lv_iload_n hx hb dX6_areAlike_51 rfl (lv_at hl 3 rfl) ?_
          refine lv_if_eq (tgt := 94) hx hb dX6_areAlike_52 (by decide) (fun c_9 => ?_) (fun c_9 => ?_)
          · skip
            have ic_9 : (b3.toInt : Int) = 0 := ic_eq rfl kI_0 c_9
            refine lv_iload_n hx hb dX6_areAlike_94 rfl (lv_at hl 3 rfl) ?_
            exact m_zret (v := b3) hx hb hr (ic_nar _ (by omega)) hlk hC hH (fun _ => (0, 0)) ⟨rfl, hal_.elim (fun q_ => Or.inl ⟨q_.1, q_.2.1, q_.2.2.1, fun i_ hi_ => q_.2.2.2 i_ (by have hs_ := congrArg Int32.toInt ex_7; omega)⟩) (fun q_ => Or.inr q_)⟩ (Nat.le_of_ble_eq_true rfl) (Nat.le_of_ble_eq_true rfl) dX6_areAlike_95
          · skip
            have ic_9 : (b3.toInt : Int) ≠ 0 := ic_ne rfl kI_0 c_9
            refine lv_aload_n hx hb dX6_areAlike_55 rfl (lv_at hl 0 rfl) ?_
            refine m_get (ci := 6) (v := .ref (h 5)) (C := RX6) (T := TX6) (N := 30) hx hb hC hH hts in_X6_areAlike_X6 hown F_1 rfl 5 (by decide) (hts (.fieldLink RX6 21 "LazyStateModel" "items" "[I") (by decide +kernel)) rfl dX6_areAlike_56 ?_
            refine lv_bipush (v := 8) hx hb dX6_areAlike_59 (by decide) ?_
            refine lv_iload_n hx hb dX6_areAlike_61 rfl (lv_at hl 1 rfl) ?_
            refine lv_imul hx hb dX6_areAlike_62 ?_
            refine lv_topi (fun x_10 ex_10 => ?_)
            have ix_10 : x_10.toInt = 8 * a.toInt := ic_mul ex_10 kI_8 rfl (by omega) (by omega)
            refine lv_iload hx hb dX6_areAlike_63 (lv_at hl 4 rfl) ?_
            refine lv_iadd hx hb dX6_areAlike_65 ?_
            refine lv_topi (fun x_11 ex_11 => ?_)
            have ix_11 : x_11.toInt = x_10.toInt + k4.toInt := ic_add ex_11 rfl rfl (by omega) (by omega)
            have hg_12 : f (h 5) = some (.inl (gk G 0, 64512, .inl (I 5))) := hM.2.1 5 (by decide) rfl
            refine m_iald hx hb hC hH hg_12 (vp_in_iff.mpr ⟨by omega, by omega⟩) dX6_areAlike_66 ?_
            refine lv_topi (fun x_13 ex_13 => ?_)
            refine lv_aload_n hx hb dX6_areAlike_67 rfl (lv_at hl 0 rfl) ?_
            refine m_get (ci := 6) (v := .ref (h 5)) (C := RX6) (T := TX6) (N := 30) hx hb hC hH hts in_X6_areAlike_X6 hown F_1 rfl 5 (by decide) (hts (.fieldLink RX6 21 "LazyStateModel" "items" "[I") (by decide +kernel)) rfl dX6_areAlike_68 ?_
            refine lv_bipush (v := 8) hx hb dX6_areAlike_71 (by decide) ?_
            refine lv_iload_n hx hb dX6_areAlike_73 rfl (lv_at hl 2 rfl) ?_
            refine lv_imul hx hb dX6_areAlike_74 ?_
            refine lv_topi (fun x_14 ex_14 => ?_)
            have ix_14 : x_14.toInt = 8 * b.toInt := ic_mul ex_14 kI_8 rfl (by omega) (by omega)
            refine lv_iload hx hb dX6_areAlike_75 (lv_at hl 4 rfl) ?_
            refine lv_iadd hx hb dX6_areAlike_77 ?_
            refine lv_topi (fun x_15 ex_15 => ?_)
            have ix_15 : x_15.toInt = x_14.toInt + k4.toInt := ic_add ex_15 rfl rfl (by omega) (by omega)
            refine m_iald hx hb hC hH hg_12 (vp_in_iff.mpr ⟨by omega, by omega⟩) dX6_areAlike_78 ?_
            refine lv_topi (fun x_16 ex_16 => ?_)
            refine lv_icmp_ne (tgt := 86) hx hb dX6_areAlike_79 (by decide) (fun c_17 => ?_) (fun c_17 => ?_)
            · skip
              have ic_17 : (x_13.toInt : Int) ≠ x_16.toInt := ic_ne rfl rfl c_17
              refine lv_iconst (v := 0) hx hb dX6_areAlike_86 (by decide) ?_
              refine lv_istore_n (lv' := [(3, .int 0), (0, .ref (h 0)), (1, .int a), (2, .int b), (4, .int k4)]) hx hb dX6_areAlike_87 rfl hl (by decide) rfl (fun ls hl => ?_)
              obtain ⟨x_18, ex_18⟩ : ∃ y : Int32, y = k4 + 1 := ⟨_, rfl⟩
              have ix_18 : x_18.toInt = k4.toInt + 1 := ic_add ex_18 rfl kI_1 (by omega) (by omega)
              refine lv_iinc (v := x_18) (lv' := [(4, .int x_18), (3, .int 0), (0, .ref (h 0)), (1, .int a), (2, .int b)]) hx hb dX6_areAlike_88 hl (k := 4) rfl (by rw [ex_18]; rfl) (by decide) rfl (fun ls hl => ?_)
              refine lv_goto (tgt := 40) hx hb dX6_areAlike_91 (by decide) ?_
              exact ih_40 0 x_18 (by have := kI_0; omega) (by have := kI_0; omega) (by obtain ⟨q0_, q1_, q2_, q3_⟩ := hal_.resolve_right (fun z_ => by omega); have ck_ := ic_clN (rfl : k4.toInt = _) (by omega); have n1_ : x_11.toNatClampNeg = 8 * a.toNatClampNeg + k4.toNatClampNeg := (by have := ic_clN (rfl : x_11.toInt = _) (by omega); omega); have n2_ : x_15.toNatClampNeg = 8 * b.toNatClampNeg + k4.toNatClampNeg := (by have := ic_clN (rfl : x_15.toInt = _) (by omega); omega); exact Or.inr ⟨kI_0, fun z_ => by have w_ := z_.2.2 k4.toNatClampNeg (by have hs_ := congrArg Int32.toInt ex_7; omega); rw [← n1_, ← n2_, ← ex_13, ← ex_16] at w_; rw [w_] at ic_17; exact ic_17 rfl⟩) (by have := kI_0; omega) _ _ _ hH (lv_sub hl [2, 3, 4, 1, 0] rfl)
            · skip
              have ic_17 : (x_13.toInt : Int) = x_16.toInt := ic_eq rfl rfl c_17
              refine lv_iconst (v := 1) hx hb dX6_areAlike_82 (by decide) ?_
              refine lv_goto (tgt := 87) hx hb dX6_areAlike_83 (by decide) ?_
              refine lv_istore_n (lv' := [(3, .int 1), (0, .ref (h 0)), (1, .int a), (2, .int b), (4, .int k4)]) hx hb dX6_areAlike_87 rfl hl (by decide) rfl (fun ls hl => ?_)
              obtain ⟨x_19, ex_19⟩ : ∃ y : Int32, y = k4 + 1 := ⟨_, rfl⟩
              have ix_19 : x_19.toInt = k4.toInt + 1 := ic_add ex_19 rfl kI_1 (by omega) (by omega)
              refine lv_iinc (v := x_19) (lv' := [(4, .int x_19), (3, .int 1), (0, .ref (h 0)), (1, .int a), (2, .int b)]) hx hb dX6_areAlike_88 hl (k := 4) rfl (by rw [ex_19]; rfl) (by decide) rfl (fun ls hl => ?_)
              refine lv_goto (tgt := 40) hx hb dX6_areAlike_91 (by decide) ?_
              exact ih_40 1 x_19 (by have := kI_1; omega) (by have := kI_1; omega) (by obtain ⟨q0_, q1_, q2_, q3_⟩ := hal_.resolve_right (fun z_ => by omega); have ck_ := ic_clN (rfl : k4.toInt = _) (by omega); have n1_ : x_11.toNatClampNeg = 8 * a.toNatClampNeg + k4.toNatClampNeg := (by have := ic_clN (rfl : x_11.toInt = _) (by omega); omega); have n2_ : x_15.toNatClampNeg = 8 * b.toNatClampNeg + k4.toNatClampNeg := (by have := ic_clN (rfl : x_15.toInt = _) (by omega); omega); exact Or.inl ⟨kI_1, q1_, q2_, fun i_ hi_ => (Decidable.em (i_ = k4.toNatClampNeg)).elim (fun z_ => by rw [z_, ← n1_, ← n2_, ← ex_13, ← ex_16]; exact Int32.toInt_inj.mp ic_17) (fun z_ => q3_ i_ (by omega))⟩) (by have := kI_1; omega) _ _ _ hH (lv_sub hl [2, 3, 4, 1, 0] rfl)
    exact loop_40 (((8 : Int) - 0).toNat + 1) 0 0 (by have := kI_0; have := kI_0; omega) (by have := kI_0; have := kI_0; omega) (Or.inr ⟨kI_0, fun q_ => aj_ q_.1⟩) (by have := kI_0; have := kI_0; omega) _ _ _ hH (lv_sub hl [2, 3, 4, 1, 0] rfl)
  · skip
    have ic_5 : (y_3.toInt : Int) = y_4.toInt := lc_eq rfl rfl ((lg_cmp_eq _ _).mp c_5)
    have aj_ : J 3 a.toNatClampNeg = J 3 b.toNatClampNeg := by rw [← ey_3, ← ey_4]; exact Int64.toInt_inj.mp ic_5
    refine lv_aload_n hx hb dX6_areAlike_16 rfl (lv_at hl 0 rfl) ?_
    refine m_get (ci := 6) (v := .ref (h 4)) (C := RX6) (T := TX6) (N := 30) hx hb hC hH hts in_X6_areAlike_X6 hown F_1 rfl 4 (by decide) (hts (.fieldLink RX6 17 "LazyStateModel" "sizes" "[I") (by decide +kernel)) rfl dX6_areAlike_17 ?_
    refine lv_iload_n hx hb dX6_areAlike_20 rfl (lv_at hl 1 rfl) ?_
    have hg_20 : f (h 4) = some (.inl (gk G 0, 8064, .inl (I 4))) := hM.2.1 4 (by decide) rfl
    refine m_iald hx hb hC hH hg_20 (vp_in_iff.mpr ⟨by omega, by omega⟩) dX6_areAlike_21 ?_
    refine lv_topi (fun x_21 ex_21 => ?_)
    refine lv_aload_n hx hb dX6_areAlike_22 rfl (lv_at hl 0 rfl) ?_
    refine m_get (ci := 6) (v := .ref (h 4)) (C := RX6) (T := TX6) (N := 30) hx hb hC hH hts in_X6_areAlike_X6 hown F_1 rfl 4 (by decide) (hts (.fieldLink RX6 17 "LazyStateModel" "sizes" "[I") (by decide +kernel)) rfl dX6_areAlike_23 ?_
    refine lv_iload_n hx hb dX6_areAlike_26 rfl (lv_at hl 2 rfl) ?_
    refine m_iald hx hb hC hH hg_20 (vp_in_iff.mpr ⟨by omega, by omega⟩) dX6_areAlike_27 ?_
    refine lv_topi (fun x_22 ex_22 => ?_)
    refine lv_icmp_ne (tgt := 35) hx hb dX6_areAlike_28 (by decide) (fun c_23 => ?_) (fun c_23 => ?_)
    · skip
      have ic_23 : (x_21.toInt : Int) ≠ x_22.toInt := ic_ne rfl rfl c_23
      have ai_ : ¬ I 4 a.toNatClampNeg = I 4 b.toNatClampNeg := fun q_ => by rw [← ex_21, ← ex_22] at q_; rw [q_] at ic_23; exact ic_23 rfl
      refine lv_iconst (v := 0) hx hb dX6_areAlike_35 (by decide) ?_
      refine lv_istore_n (lv' := [(3, .int 0), (0, .ref (h 0)), (1, .int a), (2, .int b)]) hx hb dX6_areAlike_36 rfl hl (by decide) rfl (fun ls hl => ?_)
      refine lv_iconst (v := 0) hx hb dX6_areAlike_37 (by decide) ?_
      refine lv_istore (lv' := [(4, .int 0), (3, .int 0), (0, .ref (h 0)), (1, .int a), (2, .int b)]) hx hb dX6_areAlike_38 hl (by decide) rfl (fun ls hl => ?_)
      have loop_40 : ∀ (fuel_ : Nat) (b3 : Int32) (k4 : Int32) (h0_ : 0 ≤ k4.toInt) (h1_ : k4.toInt ≤ 8) (hal_ : (((b3.toInt : Int) = 1 ∧ J 3 a.toNatClampNeg = J 3 b.toNatClampNeg ∧ I 4 a.toNatClampNeg = I 4 b.toNatClampNeg ∧ ∀ i : Nat, (i : Int) < k4.toInt → I 5 (8 * a.toNatClampNeg + i) = I 5 (8 * b.toNatClampNeg + i)) ∨ ((b3.toInt : Int) = 0 ∧ ¬ (J 3 a.toNatClampNeg = J 3 b.toNatClampNeg ∧ I 4 a.toNatClampNeg = I 4 b.toNatClampNeg ∧ ∀ i : Nat, (i : Int) < (I 4 a.toNatClampNeg).toInt → I 5 (8 * a.toNatClampNeg + i) = I 5 (8 * b.toNatClampNeg + i))))) (_ : ((8 : Int) - k4.toInt).toNat < fuel_) (H : Heap) (locs : List Loc) (ls : Array Slot) (_ : mH G s f H locs) (_ : lv_has ls 5 [(0, .ref (h 0)), (1, .int a), (2, .int b), (3, .int b3), (4, .int k4)]), W p l e ({ frames := 0, cells := 0, slots := 0, locals := 0 } : Room) s m ([.ref (h 0), .int a, .int b] : List Value).toArray below meth c H locs 0 0 (MQ below (va_Qi (fun (r : Int32) (u : mS) => u.2 = f ∧ ((r.toInt = 1 ∧ (J 3 a.toNatClampNeg = J 3 b.toNatClampNeg ∧ I 4 a.toNatClampNeg = I 4 b.toNatClampNeg ∧ ∀ i : Nat, (i : Int) < (I 4 a.toNatClampNeg).toInt → I 5 (8 * a.toNatClampNeg + i) = I 5 (8 * b.toNatClampNeg + i))) ∨ (r.toInt = 0 ∧ ¬ (J 3 a.toNatClampNeg = J 3 b.toNatClampNeg ∧ I 4 a.toNatClampNeg = I 4 b.toNatClampNeg ∧ ∀ i : Nat, (i : Int) < (I 4 a.toNatClampNeg).toInt → I 5 (8 * a.toNatClampNeg + i) = I 5 (8 * b.toNatClampNeg + i))))) (fun (u : mS) t => mW G u.2 t) (mA G)) ([.ref (h 0), .int a, .int b] : List Value).toArray s 0 0 (mA G)) (F0 m 40 ls []) := by
        intro N_40
        induction N_40 with
        | zero => intro b3 k4 h0_ h1_ hal_ hN; omega
        | succ N_40 ih_40 =>
          intro b3 k4 h0_ h1_ hal_ hN_40 H locs ls hH hl
          refine lv_iload hx hb dX6_areAlike_40 (lv_at hl 4 rfl) ?_
          refine lv_aload_n hx hb dX6_areAlike_42 rfl (lv_at hl 0 rfl) ?_
          refine m_get (ci := 6) (v := .ref (h 4)) (C := RX6) (T := TX6) (N := 30) hx hb hC hH hts in_X6_areAlike_X6 hown F_1 rfl 4 (by decide) (hts (.fieldLink RX6 17 "LazyStateModel" "sizes" "[I") (by decide +kernel)) rfl dX6_areAlike_43 ?_
          refine lv_iload_n hx hb dX6_areAlike_46 rfl (lv_at hl 1 rfl) ?_
          refine m_iald hx hb hC hH hg_20 (vp_in_iff.mpr ⟨by omega, by omega⟩) dX6_areAlike_47 ?_
          refine lv_topi (fun x_24 ex_24 => ?_)
          refine lv_icmp_ge (tgt := 94) hx hb dX6_areAlike_48 (by decide) (fun c_25 => ?_) (fun c_25 => ?_)
          · skip
            have ic_25 : (x_24.toInt : Int) ≤ k4.toInt := ic_le rfl rfl c_25
            refine lv_iload_n hx hb dX6_areAlike_94 rfl (lv_at hl 3 rfl) ?_
            exact m_zret (v := b3) hx hb hr (ic_nar _ (by omega)) hlk hC hH (fun _ => (0, 0)) ⟨rfl, hal_.elim (fun q_ => Or.inl ⟨q_.1, q_.2.1, q_.2.2.1, fun i_ hi_ => q_.2.2.2 i_ (by have hs_ := congrArg Int32.toInt ex_24; omega)⟩) (fun q_ => Or.inr q_)⟩ (Nat.le_of_ble_eq_true rfl) (Nat.le_of_ble_eq_true rfl) dX6_areAlike_95
          · skip
            have ic_25 : (x_24.toInt : Int) > k4.toInt := ic_nle rfl rfl c_25
            have sb_ : x_24.toInt ≤ 8 := by rw [ex_24]; exact hs8
            refine lv_iload_n hx hb dX6_areAlike_51 rfl (lv_at hl 3 rfl) ?_
            refine lv_if_eq (tgt := 94) hx hb dX6_areAlike_52 (by decide) (fun c_26 => ?_) (fun c_26 => ?_)
            · skip
              have ic_26 : (b3.toInt : Int) = 0 := ic_eq rfl kI_0 c_26
              refine lv_iload_n hx hb dX6_areAlike_94 rfl (lv_at hl 3 rfl) ?_
              exact m_zret (v := b3) hx hb hr (ic_nar _ (by omega)) hlk hC hH (fun _ => (0, 0)) ⟨rfl, hal_.elim (fun q_ => Or.inl ⟨q_.1, q_.2.1, q_.2.2.1, fun i_ hi_ => q_.2.2.2 i_ (by have hs_ := congrArg Int32.toInt ex_24; omega)⟩) (fun q_ => Or.inr q_)⟩ (Nat.le_of_ble_eq_true rfl) (Nat.le_of_ble_eq_true rfl) dX6_areAlike_95
            · skip
              have ic_26 : (b3.toInt : Int) ≠ 0 := ic_ne rfl kI_0 c_26
              refine lv_aload_n hx hb dX6_areAlike_55 rfl (lv_at hl 0 rfl) ?_
              refine m_get (ci := 6) (v := .ref (h 5)) (C := RX6) (T := TX6) (N := 30) hx hb hC hH hts in_X6_areAlike_X6 hown F_1 rfl 5 (by decide) (hts (.fieldLink RX6 21 "LazyStateModel" "items" "[I") (by decide +kernel)) rfl dX6_areAlike_56 ?_
              refine lv_bipush (v := 8) hx hb dX6_areAlike_59 (by decide) ?_
              refine lv_iload_n hx hb dX6_areAlike_61 rfl (lv_at hl 1 rfl) ?_
              refine lv_imul hx hb dX6_areAlike_62 ?_
              refine lv_topi (fun x_27 ex_27 => ?_)
              have ix_27 : x_27.toInt = 8 * a.toInt := ic_mul ex_27 kI_8 rfl (by omega) (by omega)
              refine lv_iload hx hb dX6_areAlike_63 (lv_at hl 4 rfl) ?_
              refine lv_iadd hx hb dX6_areAlike_65 ?_
              refine lv_topi (fun x_28 ex_28 => ?_)
              have ix_28 : x_28.toInt = x_27.toInt + k4.toInt := ic_add ex_28 rfl rfl (by omega) (by omega)
              have hg_29 : f (h 5) = some (.inl (gk G 0, 64512, .inl (I 5))) := hM.2.1 5 (by decide) rfl
              refine m_iald hx hb hC hH hg_29 (vp_in_iff.mpr ⟨by omega, by omega⟩) dX6_areAlike_66 ?_
              refine lv_topi (fun x_30 ex_30 => ?_)
              refine lv_aload_n hx hb dX6_areAlike_67 rfl (lv_at hl 0 rfl) ?_
              refine m_get (ci := 6) (v := .ref (h 5)) (C := RX6) (T := TX6) (N := 30) hx hb hC hH hts in_X6_areAlike_X6 hown F_1 rfl 5 (by decide) (hts (.fieldLink RX6 21 "LazyStateModel" "items" "[I") (by decide +kernel)) rfl dX6_areAlike_68 ?_
              refine lv_bipush (v := 8) hx hb dX6_areAlike_71 (by decide) ?_
              refine lv_iload_n hx hb dX6_areAlike_73 rfl (lv_at hl 2 rfl) ?_
              refine lv_imul hx hb dX6_areAlike_74 ?_
              refine lv_topi (fun x_31 ex_31 => ?_)
              have ix_31 : x_31.toInt = 8 * b.toInt := ic_mul ex_31 kI_8 rfl (by omega) (by omega)
              refine lv_iload hx hb dX6_areAlike_75 (lv_at hl 4 rfl) ?_
              refine lv_iadd hx hb dX6_areAlike_77 ?_
              refine lv_topi (fun x_32 ex_32 => ?_)
              have ix_32 : x_32.toInt = x_31.toInt + k4.toInt := ic_add ex_32 rfl rfl (by omega) (by omega)
              refine m_iald hx hb hC hH hg_29 (vp_in_iff.mpr ⟨by omega, by omega⟩) dX6_areAlike_78 ?_
              refine lv_topi (fun x_33 ex_33 => ?_)
              refine lv_icmp_ne (tgt := 86) hx hb dX6_areAlike_79 (by decide) (fun c_34 => ?_) (fun c_34 => ?_)
              · skip
                have ic_34 : (x_30.toInt : Int) ≠ x_33.toInt := ic_ne rfl rfl c_34
                refine lv_iconst (v := 0) hx hb dX6_areAlike_86 (by decide) ?_
                refine lv_istore_n (lv' := [(3, .int 0), (0, .ref (h 0)), (1, .int a), (2, .int b), (4, .int k4)]) hx hb dX6_areAlike_87 rfl hl (by decide) rfl (fun ls hl => ?_)
                obtain ⟨x_35, ex_35⟩ : ∃ y : Int32, y = k4 + 1 := ⟨_, rfl⟩
                have ix_35 : x_35.toInt = k4.toInt + 1 := ic_add ex_35 rfl kI_1 (by omega) (by omega)
                refine lv_iinc (v := x_35) (lv' := [(4, .int x_35), (3, .int 0), (0, .ref (h 0)), (1, .int a), (2, .int b)]) hx hb dX6_areAlike_88 hl (k := 4) rfl (by rw [ex_35]; rfl) (by decide) rfl (fun ls hl => ?_)
                refine lv_goto (tgt := 40) hx hb dX6_areAlike_91 (by decide) ?_
                exact ih_40 0 x_35 (by have := kI_0; omega) (by have := kI_0; omega) (by obtain ⟨q0_, q1_, q2_, q3_⟩ := hal_.resolve_right (fun z_ => by omega); have ck_ := ic_clN (rfl : k4.toInt = _) (by omega); have n1_ : x_28.toNatClampNeg = 8 * a.toNatClampNeg + k4.toNatClampNeg := (by have := ic_clN (rfl : x_28.toInt = _) (by omega); omega); have n2_ : x_32.toNatClampNeg = 8 * b.toNatClampNeg + k4.toNatClampNeg := (by have := ic_clN (rfl : x_32.toInt = _) (by omega); omega); exact Or.inr ⟨kI_0, fun z_ => by have w_ := z_.2.2 k4.toNatClampNeg (by have hs_ := congrArg Int32.toInt ex_24; omega); rw [← n1_, ← n2_, ← ex_30, ← ex_33] at w_; rw [w_] at ic_34; exact ic_34 rfl⟩) (by have := kI_0; omega) _ _ _ hH (lv_sub hl [2, 3, 4, 1, 0] rfl)
              · skip
                have ic_34 : (x_30.toInt : Int) = x_33.toInt := ic_eq rfl rfl c_34
                refine lv_iconst (v := 1) hx hb dX6_areAlike_82 (by decide) ?_
                refine lv_goto (tgt := 87) hx hb dX6_areAlike_83 (by decide) ?_
                refine lv_istore_n (lv' := [(3, .int 1), (0, .ref (h 0)), (1, .int a), (2, .int b), (4, .int k4)]) hx hb dX6_areAlike_87 rfl hl (by decide) rfl (fun ls hl => ?_)
                obtain ⟨x_36, ex_36⟩ : ∃ y : Int32, y = k4 + 1 := ⟨_, rfl⟩
                have ix_36 : x_36.toInt = k4.toInt + 1 := ic_add ex_36 rfl kI_1 (by omega) (by omega)
                refine lv_iinc (v := x_36) (lv' := [(4, .int x_36), (3, .int 1), (0, .ref (h 0)), (1, .int a), (2, .int b)]) hx hb dX6_areAlike_88 hl (k := 4) rfl (by rw [ex_36]; rfl) (by decide) rfl (fun ls hl => ?_)
                refine lv_goto (tgt := 40) hx hb dX6_areAlike_91 (by decide) ?_
                exact ih_40 1 x_36 (by have := kI_1; omega) (by have := kI_1; omega) (by obtain ⟨q0_, q1_, q2_, q3_⟩ := hal_.resolve_right (fun z_ => by omega); have ck_ := ic_clN (rfl : k4.toInt = _) (by omega); have n1_ : x_28.toNatClampNeg = 8 * a.toNatClampNeg + k4.toNatClampNeg := (by have := ic_clN (rfl : x_28.toInt = _) (by omega); omega); have n2_ : x_32.toNatClampNeg = 8 * b.toNatClampNeg + k4.toNatClampNeg := (by have := ic_clN (rfl : x_32.toInt = _) (by omega); omega); exact Or.inl ⟨kI_1, q1_, q2_, fun i_ hi_ => (Decidable.em (i_ = k4.toNatClampNeg)).elim (fun z_ => by rw [z_, ← n1_, ← n2_, ← ex_30, ← ex_33]; exact Int32.toInt_inj.mp ic_34) (fun z_ => q3_ i_ (by omega))⟩) (by have := kI_1; omega) _ _ _ hH (lv_sub hl [2, 3, 4, 1, 0] rfl)
      exact loop_40 (((8 : Int) - 0).toNat + 1) 0 0 (by have := kI_0; have := kI_0; omega) (by have := kI_0; have := kI_0; omega) (Or.inr ⟨kI_0, fun q_ => ai_ q_.2.1⟩) (by have := kI_0; have := kI_0; omega) _ _ _ hH (lv_sub hl [2, 3, 4, 1, 0] rfl)
    · skip
      have ic_23 : (x_21.toInt : Int) = x_22.toInt := ic_eq rfl rfl c_23
      have ai_ : I 4 a.toNatClampNeg = I 4 b.toNatClampNeg := by rw [← ex_21, ← ex_22]; exact Int32.toInt_inj.mp ic_23
      refine lv_iconst (v := 1) hx hb dX6_areAlike_31 (by decide) ?_
      refine lv_goto (tgt := 36) hx hb dX6_areAlike_32 (by decide) ?_
      refine lv_istore_n (lv' := [(3, .int 1), (0, .ref (h 0)), (1, .int a), (2, .int b)]) hx hb dX6_areAlike_36 rfl hl (by decide) rfl (fun ls hl => ?_)
      refine lv_iconst (v := 0) hx hb dX6_areAlike_37 (by decide) ?_
      refine lv_istore (lv' := [(4, .int 0), (3, .int 1), (0, .ref (h 0)), (1, .int a), (2, .int b)]) hx hb dX6_areAlike_38 hl (by decide) rfl (fun ls hl => ?_)
      have loop_40 : ∀ (fuel_ : Nat) (b3 : Int32) (k4 : Int32) (h0_ : 0 ≤ k4.toInt) (h1_ : k4.toInt ≤ 8) (hal_ : (((b3.toInt : Int) = 1 ∧ J 3 a.toNatClampNeg = J 3 b.toNatClampNeg ∧ I 4 a.toNatClampNeg = I 4 b.toNatClampNeg ∧ ∀ i : Nat, (i : Int) < k4.toInt → I 5 (8 * a.toNatClampNeg + i) = I 5 (8 * b.toNatClampNeg + i)) ∨ ((b3.toInt : Int) = 0 ∧ ¬ (J 3 a.toNatClampNeg = J 3 b.toNatClampNeg ∧ I 4 a.toNatClampNeg = I 4 b.toNatClampNeg ∧ ∀ i : Nat, (i : Int) < (I 4 a.toNatClampNeg).toInt → I 5 (8 * a.toNatClampNeg + i) = I 5 (8 * b.toNatClampNeg + i))))) (_ : ((8 : Int) - k4.toInt).toNat < fuel_) (H : Heap) (locs : List Loc) (ls : Array Slot) (_ : mH G s f H locs) (_ : lv_has ls 5 [(0, .ref (h 0)), (1, .int a), (2, .int b), (3, .int b3), (4, .int k4)]), W p l e ({ frames := 0, cells := 0, slots := 0, locals := 0 } : Room) s m ([.ref (h 0), .int a, .int b] : List Value).toArray below meth c H locs 0 0 (MQ below (va_Qi (fun (r : Int32) (u : mS) => u.2 = f ∧ ((r.toInt = 1 ∧ (J 3 a.toNatClampNeg = J 3 b.toNatClampNeg ∧ I 4 a.toNatClampNeg = I 4 b.toNatClampNeg ∧ ∀ i : Nat, (i : Int) < (I 4 a.toNatClampNeg).toInt → I 5 (8 * a.toNatClampNeg + i) = I 5 (8 * b.toNatClampNeg + i))) ∨ (r.toInt = 0 ∧ ¬ (J 3 a.toNatClampNeg = J 3 b.toNatClampNeg ∧ I 4 a.toNatClampNeg = I 4 b.toNatClampNeg ∧ ∀ i : Nat, (i : Int) < (I 4 a.toNatClampNeg).toInt → I 5 (8 * a.toNatClampNeg + i) = I 5 (8 * b.toNatClampNeg + i))))) (fun (u : mS) t => mW G u.2 t) (mA G)) ([.ref (h 0), .int a, .int b] : List Value).toArray s 0 0 (mA G)) (F0 m 40 ls []) := by
        intro N_40
        induction N_40 with
        | zero => intro b3 k4 h0_ h1_ hal_ hN; omega
        | succ N_40 ih_40 =>
          intro b3 k4 h0_ h1_ hal_ hN_40 H locs ls hH hl
          refine lv_iload hx hb dX6_areAlike_40 (lv_at hl 4 rfl) ?_
          refine lv_aload_n hx hb dX6_areAlike_42 rfl (lv_at hl 0 rfl) ?_
          refine m_get (ci := 6) (v := .ref (h 4)) (C := RX6) (T := TX6) (N := 30) hx hb hC hH hts in_X6_areAlike_X6 hown F_1 rfl 4 (by decide) (hts (.fieldLink RX6 17 "LazyStateModel" "sizes" "[I") (by decide +kernel)) rfl dX6_areAlike_43 ?_
          refine lv_iload_n hx hb dX6_areAlike_46 rfl (lv_at hl 1 rfl) ?_
          refine m_iald hx hb hC hH hg_20 (vp_in_iff.mpr ⟨by omega, by omega⟩) dX6_areAlike_47 ?_
          refine lv_topi (fun x_37 ex_37 => ?_)
          refine lv_icmp_ge (tgt := 94) hx hb dX6_areAlike_48 (by decide) (fun c_38 => ?_) (fun c_38 => ?_)
          · skip
            have ic_38 : (x_37.toInt : Int) ≤ k4.toInt := ic_le rfl rfl c_38
            refine lv_iload_n hx hb dX6_areAlike_94 rfl (lv_at hl 3 rfl) ?_
            exact m_zret (v := b3) hx hb hr (ic_nar _ (by omega)) hlk hC hH (fun _ => (0, 0)) ⟨rfl, hal_.elim (fun q_ => Or.inl ⟨q_.1, q_.2.1, q_.2.2.1, fun i_ hi_ => q_.2.2.2 i_ (by have hs_ := congrArg Int32.toInt ex_37; omega)⟩) (fun q_ => Or.inr q_)⟩ (Nat.le_of_ble_eq_true rfl) (Nat.le_of_ble_eq_true rfl) dX6_areAlike_95
          · skip
            have ic_38 : (x_37.toInt : Int) > k4.toInt := ic_nle rfl rfl c_38
            have sb_ : x_37.toInt ≤ 8 := by rw [ex_37]; exact hs8
            refine lv_iload_n hx hb dX6_areAlike_51 rfl (lv_at hl 3 rfl) ?_
            refine lv_if_eq (tgt := 94) hx hb dX6_areAlike_52 (by decide) (fun c_39 => ?_) (fun c_39 => ?_)
            · skip
              have ic_39 : (b3.toInt : Int) = 0 := ic_eq rfl kI_0 c_39
              refine lv_iload_n hx hb dX6_areAlike_94 rfl (lv_at hl 3 rfl) ?_
              exact m_zret (v := b3) hx hb hr (ic_nar _ (by omega)) hlk hC hH (fun _ => (0, 0)) ⟨rfl, hal_.elim (fun q_ => Or.inl ⟨q_.1, q_.2.1, q_.2.2.1, fun i_ hi_ => q_.2.2.2 i_ (by have hs_ := congrArg Int32.toInt ex_37; omega)⟩) (fun q_ => Or.inr q_)⟩ (Nat.le_of_ble_eq_true rfl) (Nat.le_of_ble_eq_true rfl) dX6_areAlike_95
            · skip
              have ic_39 : (b3.toInt : Int) ≠ 0 := ic_ne rfl kI_0 c_39
              refine lv_aload_n hx hb dX6_areAlike_55 rfl (lv_at hl 0 rfl) ?_
              refine m_get (ci := 6) (v := .ref (h 5)) (C := RX6) (T := TX6) (N := 30) hx hb hC hH hts in_X6_areAlike_X6 hown F_1 rfl 5 (by decide) (hts (.fieldLink RX6 21 "LazyStateModel" "items" "[I") (by decide +kernel)) rfl dX6_areAlike_56 ?_
              refine lv_bipush (v := 8) hx hb dX6_areAlike_59 (by decide) ?_
              refine lv_iload_n hx hb dX6_areAlike_61 rfl (lv_at hl 1 rfl) ?_
              refine lv_imul hx hb dX6_areAlike_62 ?_
              refine lv_topi (fun x_40 ex_40 => ?_)
              have ix_40 : x_40.toInt = 8 * a.toInt := ic_mul ex_40 kI_8 rfl (by omega) (by omega)
              refine lv_iload hx hb dX6_areAlike_63 (lv_at hl 4 rfl) ?_
              refine lv_iadd hx hb dX6_areAlike_65 ?_
              refine lv_topi (fun x_41 ex_41 => ?_)
              have ix_41 : x_41.toInt = x_40.toInt + k4.toInt := ic_add ex_41 rfl rfl (by omega) (by omega)
              have hg_42 : f (h 5) = some (.inl (gk G 0, 64512, .inl (I 5))) := hM.2.1 5 (by decide) rfl
              refine m_iald hx hb hC hH hg_42 (vp_in_iff.mpr ⟨by omega, by omega⟩) dX6_areAlike_66 ?_
              refine lv_topi (fun x_43 ex_43 => ?_)
              refine lv_aload_n hx hb dX6_areAlike_67 rfl (lv_at hl 0 rfl) ?_
              refine m_get (ci := 6) (v := .ref (h 5)) (C := RX6) (T := TX6) (N := 30) hx hb hC hH hts in_X6_areAlike_X6 hown F_1 rfl 5 (by decide) (hts (.fieldLink RX6 21 "LazyStateModel" "items" "[I") (by decide +kernel)) rfl dX6_areAlike_68 ?_
              refine lv_bipush (v := 8) hx hb dX6_areAlike_71 (by decide) ?_
              refine lv_iload_n hx hb dX6_areAlike_73 rfl (lv_at hl 2 rfl) ?_
              refine lv_imul hx hb dX6_areAlike_74 ?_
              refine lv_topi (fun x_44 ex_44 => ?_)
              have ix_44 : x_44.toInt = 8 * b.toInt := ic_mul ex_44 kI_8 rfl (by omega) (by omega)
              refine lv_iload hx hb dX6_areAlike_75 (lv_at hl 4 rfl) ?_
              refine lv_iadd hx hb dX6_areAlike_77 ?_
              refine lv_topi (fun x_45 ex_45 => ?_)
              have ix_45 : x_45.toInt = x_44.toInt + k4.toInt := ic_add ex_45 rfl rfl (by omega) (by omega)
              refine m_iald hx hb hC hH hg_42 (vp_in_iff.mpr ⟨by omega, by omega⟩) dX6_areAlike_78 ?_
              refine lv_topi (fun x_46 ex_46 => ?_)
              refine lv_icmp_ne (tgt := 86) hx hb dX6_areAlike_79 (by decide) (fun c_47 => ?_) (fun c_47 => ?_)
              · skip
                have ic_47 : (x_43.toInt : Int) ≠ x_46.toInt := ic_ne rfl rfl c_47
                refine lv_iconst (v := 0) hx hb dX6_areAlike_86 (by decide) ?_
                refine lv_istore_n (lv' := [(3, .int 0), (0, .ref (h 0)), (1, .int a), (2, .int b), (4, .int k4)]) hx hb dX6_areAlike_87 rfl hl (by decide) rfl (fun ls hl => ?_)
                obtain ⟨x_48, ex_48⟩ : ∃ y : Int32, y = k4 + 1 := ⟨_, rfl⟩
                have ix_48 : x_48.toInt = k4.toInt + 1 := ic_add ex_48 rfl kI_1 (by omega) (by omega)
                refine lv_iinc (v := x_48) (lv' := [(4, .int x_48), (3, .int 0), (0, .ref (h 0)), (1, .int a), (2, .int b)]) hx hb dX6_areAlike_88 hl (k := 4) rfl (by rw [ex_48]; rfl) (by decide) rfl (fun ls hl => ?_)
                refine lv_goto (tgt := 40) hx hb dX6_areAlike_91 (by decide) ?_
                exact ih_40 0 x_48 (by have := kI_0; omega) (by have := kI_0; omega) (by obtain ⟨q0_, q1_, q2_, q3_⟩ := hal_.resolve_right (fun z_ => by omega); have ck_ := ic_clN (rfl : k4.toInt = _) (by omega); have n1_ : x_41.toNatClampNeg = 8 * a.toNatClampNeg + k4.toNatClampNeg := (by have := ic_clN (rfl : x_41.toInt = _) (by omega); omega); have n2_ : x_45.toNatClampNeg = 8 * b.toNatClampNeg + k4.toNatClampNeg := (by have := ic_clN (rfl : x_45.toInt = _) (by omega); omega); exact Or.inr ⟨kI_0, fun z_ => by have w_ := z_.2.2 k4.toNatClampNeg (by have hs_ := congrArg Int32.toInt ex_37; omega); rw [← n1_, ← n2_, ← ex_43, ← ex_46] at w_; rw [w_] at ic_47; exact ic_47 rfl⟩) (by have := kI_0; omega) _ _ _ hH (lv_sub hl [2, 3, 4, 1, 0] rfl)
              · skip
                have ic_47 : (x_43.toInt : Int) = x_46.toInt := ic_eq rfl rfl c_47
                refine lv_iconst (v := 1) hx hb dX6_areAlike_82 (by decide) ?_
                refine lv_goto (tgt := 87) hx hb dX6_areAlike_83 (by decide) ?_
                refine lv_istore_n (lv' := [(3, .int 1), (0, .ref (h 0)), (1, .int a), (2, .int b), (4, .int k4)]) hx hb dX6_areAlike_87 rfl hl (by decide) rfl (fun ls hl => ?_)
                obtain ⟨x_49, ex_49⟩ : ∃ y : Int32, y = k4 + 1 := ⟨_, rfl⟩
                have ix_49 : x_49.toInt = k4.toInt + 1 := ic_add ex_49 rfl kI_1 (by omega) (by omega)
                refine lv_iinc (v := x_49) (lv' := [(4, .int x_49), (3, .int 1), (0, .ref (h 0)), (1, .int a), (2, .int b)]) hx hb dX6_areAlike_88 hl (k := 4) rfl (by rw [ex_49]; rfl) (by decide) rfl (fun ls hl => ?_)
                refine lv_goto (tgt := 40) hx hb dX6_areAlike_91 (by decide) ?_
                exact ih_40 1 x_49 (by have := kI_1; omega) (by have := kI_1; omega) (by obtain ⟨q0_, q1_, q2_, q3_⟩ := hal_.resolve_right (fun z_ => by omega); have ck_ := ic_clN (rfl : k4.toInt = _) (by omega); have n1_ : x_41.toNatClampNeg = 8 * a.toNatClampNeg + k4.toNatClampNeg := (by have := ic_clN (rfl : x_41.toInt = _) (by omega); omega); have n2_ : x_45.toNatClampNeg = 8 * b.toNatClampNeg + k4.toNatClampNeg := (by have := ic_clN (rfl : x_45.toInt = _) (by omega); omega); exact Or.inl ⟨kI_1, q1_, q2_, fun i_ hi_ => (Decidable.em (i_ = k4.toNatClampNeg)).elim (fun z_ => by rw [z_, ← n1_, ← n2_, ← ex_43, ← ex_46]; exact Int32.toInt_inj.mp ic_47) (fun z_ => q3_ i_ (by omega))⟩) (by have := kI_1; omega) _ _ _ hH (lv_sub hl [2, 3, 4, 1, 0] rfl)
      exact loop_40 (((8 : Int) - 0).toNat + 1) 1 0 (by have := kI_1; have := kI_0; omega) (by have := kI_1; have := kI_0; omega) (Or.inl ⟨kI_1, aj_, ai_, fun i_ hi_ => by have := kI_0; omega⟩) (by have := kI_1; have := kI_0; omega) _ _ _ hH (lv_sub hl [2, 3, 4, 1, 0] rfl)
