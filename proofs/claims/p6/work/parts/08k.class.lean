set_option maxHeartbeats 4000000 in
set_option maxRecDepth 100000 in
theorem c_X3_perform_9 (l : Launch) (G : mG) (k : Nat → Nat) (rho : tR) (n : Nat) (T z : Nat → Nat) (st : Nat → Bool) (f : mF) (hI : IC G k rho n T z st f) (i : Nat) (hi : i < 3) (hst : st i = true ∧ 0 < n) (q : Nat) (hq : rho q = (4, 0)) (kd a : Int32) (b : Int64) (c_ d_ e_ : Int32) (Fq : f q = some (.inr (0, [.int kd, .int a, .long b, .int c_, .int d_, .int e_]))) (b32 : Int32) (hb32 : b.toInt32 = b32) (hkd : kd.toInt = 9) (h0_ : 0 ≤ a.toInt ∧ a.toInt ≤ 3) (h1_ : 0 ≤ b.toInt ∧ b.toInt ≤ 7) (h2_ : 0 ≤ c_.toInt ∧ c_.toInt ≤ 3) (h3_ : 0 ≤ d_.toInt ∧ d_.toInt ≤ 3) : Met l yX3_perform wsX3_perform ({ frames := 5, cells := 3 * (ndh k i f a.toNatClampNeg), slots := 29 * (ndh k i f a.toNatClampNeg), locals := 155 }) (va_Pc [.ref (k (5 + 8 * i)), .ref q] (mW G f)) (va_Qi (fun (r : Int32) (u : mS) => IC G k u.1 n T z st u.2 ∧ frC k rho f u.1 u.2 ∧ (r.toInt ≠ 0 ∨ nul (cpF k i u.2) 24 + (ndh k i f a.toNatClampNeg) = nul (cpF k i f) 24)) (fun (u : mS) t => mW G u.2 t) (mA G)) (3 * (ndh k i f a.toNatClampNeg)) (29 * (ndh k i f a.toNatClampNeg)) (mA G) := by
  refine mMet [.ref (k (5 + 8 * i)), .ref q] (cc := cX3_perform) (maxL := 5) (ret := (some .int)) (by decide) rfl (Nat.le_of_ble_eq_true rfl) ?_
  intro p e s m below meth c ls hx hb hr hml hts hown hlk hnm hC hH hl
  have hl : lv_has ls 5 [(0, .ref (k (5 + 8 * i))), (1, .ref q)] := hl
  have hj := hI.2.2.2.2.1
  have hn24 := hI.2.2.2.2.2.2.1
  have hT3 := hI.2.2.2.2.2.2.2.1
  have hz32 := hI.2.2.2.2.2.2.2.2
  have nIn : (nI n).toInt = (n : Int) := nI_toInt (by omega)
  have hfr : frC k rho f rho f := frC.rf
  have hn0_ := hst.2
  refine lv_aload_n hx hb dX3_perform_0 rfl (lv_at hl 1 rfl) ?_
  refine m_get (ci := 0) (v := .int a) (C := RX0) (T := TX0) (N := 6) hx hb hC hH hts in_X3_perform_X0 hown Fq rfl 1 (by decide) (hts (.fieldLink RX3 110 "LazyState$Act" "a" "I") (by decide +kernel)) rfl dX3_perform_1 ?_
  refine lv_istore_n (lv' := [(2, .int a), (0, .ref (k (5 + 8 * i))), (1, .ref q)]) hx hb dX3_perform_4 rfl hl (by decide) rfl (fun ls hl => ?_)
  refine lv_aload_n hx hb dX3_perform_5 rfl (lv_at hl 2 rfl) ?_
  refine m_get (ci := 0) (v := .long b) (C := RX0) (T := TX0) (N := 6) hx hb hC hH hts in_X3_perform_X0 hown Fq rfl 2 (by decide) (hts (.fieldLink RX3 115 "LazyState$Act" "b" "J") (by decide +kernel)) rfl dX3_perform_6 ?_
  refine lv_l2i (v := b32) hx hb dX3_perform_9 hb32 ?_
  have ib32 : b32.toInt = b.toInt := ic_l2i hb32.symm rfl (by omega) (by omega)
  refine lv_istore_n (lv' := [(3, .int b32), (2, .int a), (0, .ref (k (5 + 8 * i))), (1, .ref q)]) hx hb dX3_perform_10 rfl hl (by decide) rfl (fun ls hl => ?_)
  refine lv_aload_n hx hb dX3_perform_11 rfl (lv_at hl 3 rfl) ?_
  refine m_get (ci := 0) (v := .int c_) (C := RX0) (T := TX0) (N := 6) hx hb hC hH hts in_X3_perform_X0 hown Fq rfl 3 (by decide) (hts (.fieldLink RX3 118 "LazyState$Act" "c" "I") (by decide +kernel)) rfl dX3_perform_12 ?_
  refine lv_istore (lv' := [(4, .int c_), (3, .int b32), (2, .int a), (0, .ref (k (5 + 8 * i))), (1, .ref q)]) hx hb dX3_perform_15 hl (by decide) rfl (fun ls hl => ?_)
  refine lv_aload_n hx hb dX3_perform_17 rfl (lv_at hl 4 rfl) ?_
  refine m_get (ci := 0) (v := .int kd) (C := RX0) (T := TX0) (N := 6) hx hb hC hH hts in_X3_perform_X0 hown Fq rfl 0 (by decide) (hts (.fieldLink RX3 121 "LazyState$Act" "kind" "I") (by decide +kernel)) rfl dX3_perform_18 ?_
  refine lv_tableIn (off := 235) (tgt := 256) hx hb dX3_perform_21 (by rw [hkd]; decide) (by rw [hkd]; decide) (by rw [hkd]; rfl) (by decide) ?_
  refine lv_aload_n hx hb dX3_perform_256 rfl (lv_at hl 3 rfl) ?_
  refine lv_iload_n hx hb dX3_perform_257 rfl (lv_at hl 2 rfl) ?_
  refine lv_iload_n hx hb dX3_perform_258 rfl (lv_at hl 1 rfl) ?_
  refine lv_iload hx hb dX3_perform_259 (lv_at hl 0 rfl) ?_
  refine lv_aload_n hx hb dX3_perform_261 rfl (lv_at hl 4 rfl) ?_
  refine m_get (ci := 0) (v := .int d_) (C := RX0) (T := TX0) (N := 6) hx hb hC hH hts in_X3_perform_X0 hown Fq rfl 4 (by decide) (hts (.fieldLink RX3 139 "LazyState$Act" "d" "I") (by decide +kernel)) rfl dX3_perform_262 ?_
  obtain ⟨lb_4, dn_4, gf_4, th_4, ta_4, sr_4, nx_4, F_4, s1_4, s2_4⟩ : okRun k st i (f (k (5 + 8 * i))) := hI.run (i := i) (c := 0) hi (by decide)
  have s3_4 := s2_4 hst.1
  subst s3_4
  refine m_goi hH (va_runV (As := [.int a, .int b32, .int c_, .int d_]) (rest := []) ⟨hx, hb, hml, hown, hts⟩ (c_X3_lay l G k rho n T z st f hI i hi hst a b32 c_ d_ (by omega) (by omega) (by omega)) (cwV 4 hts gX3_perform_X3_lay rfl rfl rfl (by decide +kernel) ⟨Nat.le_of_ble_eq_true rfl, Nat.le_of_ble_eq_true rfl⟩) (m_preV (ci := 3) hC hH F_4 rfl) rfl rfl hl.1 rfl (lv_room (Nat.le_of_ble_eq_true rfl)) dX3_perform_265 ⟨by show _ ≤ 3 * (ndh k i f a.toNatClampNeg); omega, by show _ ≤ 29 * (ndh k i f a.toNatClampNeg); omega⟩) (fun r_1 rho_3 f_2 H locs hw hH => ?_)
  obtain ⟨hI, hfr1, hpt_⟩ := hw
  have hI : IC G k rho_3 n T z st f_2 := hI
  have hfr1 : frC k rho f rho_3 f_2 := hfr1
  have hfr := hfr.trans hfr1
  have rr_5 := (hfr1 _ _ Fq).2.1.trans hq
  have F_6 := (hfr1 _ _ Fq).2.2 (fun j_ hj_ => hI.nk hj_ (by rw [rr_5]; simp)) (Or.inr (by rw [hq]))
  have hpt_ : nul (cpF k i f_2) 24 + ndh k i f a.toNatClampNeg = nul (cpF k i f) 24 := hpt_
  exact m_iret (v := r_1) hx hb hr hlk hC hH rho_3 ⟨hI, hfr, Or.inr hpt_⟩ (by omega) (by omega) dX3_perform_268
set_option maxHeartbeats 4000000 in
set_option maxRecDepth 100000 in
theorem c_X3_perform_10 (l : Launch) (G : mG) (k : Nat → Nat) (rho : tR) (n : Nat) (T z : Nat → Nat) (st : Nat → Bool) (f : mF) (hI : IC G k rho n T z st f) (i : Nat) (hi : i < 3) (hst : st i = true ∧ 0 < n) (q : Nat) (hq : rho q = (4, 0)) (kd a : Int32) (b : Int64) (c_ d_ e_ : Int32) (Fq : f q = some (.inr (0, [.int kd, .int a, .long b, .int c_, .int d_, .int e_]))) (b32 : Int32) (hb32 : b.toInt32 = b32) (hkd : kd.toInt = 10) (h0_ : 0 ≤ a.toInt ∧ a.toInt ≤ 3) (h1_ : 0 ≤ b.toInt ∧ b.toInt ≤ 7) (h2_ : 0 ≤ c_.toInt ∧ c_.toInt ≤ 3) : Met l yX3_perform wsX3_perform ({ frames := 5, cells := 3 * (ndh k i f a.toNatClampNeg), slots := 29 * (ndh k i f a.toNatClampNeg), locals := 155 }) (va_Pc [.ref (k (5 + 8 * i)), .ref q] (mW G f)) (va_Qi (fun (r : Int32) (u : mS) => IC G k u.1 n T z st u.2 ∧ frC k rho f u.1 u.2 ∧ (r.toInt ≠ 0 ∨ nul (cpF k i u.2) 24 + (ndh k i f a.toNatClampNeg) = nul (cpF k i f) 24)) (fun (u : mS) t => mW G u.2 t) (mA G)) (3 * (ndh k i f a.toNatClampNeg)) (29 * (ndh k i f a.toNatClampNeg)) (mA G) := by
  refine mMet [.ref (k (5 + 8 * i)), .ref q] (cc := cX3_perform) (maxL := 5) (ret := (some .int)) (by decide) rfl (Nat.le_of_ble_eq_true rfl) ?_
  intro p e s m below meth c ls hx hb hr hml hts hown hlk hnm hC hH hl
  have hl : lv_has ls 5 [(0, .ref (k (5 + 8 * i))), (1, .ref q)] := hl
  have hj := hI.2.2.2.2.1
  have hn24 := hI.2.2.2.2.2.2.1
  have hT3 := hI.2.2.2.2.2.2.2.1
  have hz32 := hI.2.2.2.2.2.2.2.2
  have nIn : (nI n).toInt = (n : Int) := nI_toInt (by omega)
  have hfr : frC k rho f rho f := frC.rf
  have hn0_ := hst.2
  refine lv_aload_n hx hb dX3_perform_0 rfl (lv_at hl 1 rfl) ?_
  refine m_get (ci := 0) (v := .int a) (C := RX0) (T := TX0) (N := 6) hx hb hC hH hts in_X3_perform_X0 hown Fq rfl 1 (by decide) (hts (.fieldLink RX3 110 "LazyState$Act" "a" "I") (by decide +kernel)) rfl dX3_perform_1 ?_
  refine lv_istore_n (lv' := [(2, .int a), (0, .ref (k (5 + 8 * i))), (1, .ref q)]) hx hb dX3_perform_4 rfl hl (by decide) rfl (fun ls hl => ?_)
  refine lv_aload_n hx hb dX3_perform_5 rfl (lv_at hl 2 rfl) ?_
  refine m_get (ci := 0) (v := .long b) (C := RX0) (T := TX0) (N := 6) hx hb hC hH hts in_X3_perform_X0 hown Fq rfl 2 (by decide) (hts (.fieldLink RX3 115 "LazyState$Act" "b" "J") (by decide +kernel)) rfl dX3_perform_6 ?_
  refine lv_l2i (v := b32) hx hb dX3_perform_9 hb32 ?_
  have ib32 : b32.toInt = b.toInt := ic_l2i hb32.symm rfl (by omega) (by omega)
  refine lv_istore_n (lv' := [(3, .int b32), (2, .int a), (0, .ref (k (5 + 8 * i))), (1, .ref q)]) hx hb dX3_perform_10 rfl hl (by decide) rfl (fun ls hl => ?_)
  refine lv_aload_n hx hb dX3_perform_11 rfl (lv_at hl 3 rfl) ?_
  refine m_get (ci := 0) (v := .int c_) (C := RX0) (T := TX0) (N := 6) hx hb hC hH hts in_X3_perform_X0 hown Fq rfl 3 (by decide) (hts (.fieldLink RX3 118 "LazyState$Act" "c" "I") (by decide +kernel)) rfl dX3_perform_12 ?_
  refine lv_istore (lv' := [(4, .int c_), (3, .int b32), (2, .int a), (0, .ref (k (5 + 8 * i))), (1, .ref q)]) hx hb dX3_perform_15 hl (by decide) rfl (fun ls hl => ?_)
  refine lv_aload_n hx hb dX3_perform_17 rfl (lv_at hl 4 rfl) ?_
  refine m_get (ci := 0) (v := .int kd) (C := RX0) (T := TX0) (N := 6) hx hb hC hH hts in_X3_perform_X0 hown Fq rfl 0 (by decide) (hts (.fieldLink RX3 121 "LazyState$Act" "kind" "I") (by decide +kernel)) rfl dX3_perform_18 ?_
  refine lv_tableIn (off := 248) (tgt := 269) hx hb dX3_perform_21 (by rw [hkd]; decide) (by rw [hkd]; decide) (by rw [hkd]; rfl) (by decide) ?_
  refine lv_aload_n hx hb dX3_perform_269 rfl (lv_at hl 3 rfl) ?_
  refine lv_iload_n hx hb dX3_perform_270 rfl (lv_at hl 2 rfl) ?_
  refine lv_iload_n hx hb dX3_perform_271 rfl (lv_at hl 1 rfl) ?_
  refine lv_aload_n hx hb dX3_perform_272 rfl (lv_at hl 3 rfl) ?_
  obtain ⟨lb_1, dn_1, gf_1, th_1, ta_1, sr_1, nx_1, F_1, s1_1, s2_1⟩ : okRun k st i (f (k (5 + 8 * i))) := hI.run (i := i) (c := 0) hi (by decide)
  have s3_1 := s2_1 hst.1
  subst s3_1
  refine m_get (ci := 3) (v := .ref (k (5 + 8 * i + 7))) (C := RX3) (T := TX3) (N := 11) hx hb hC hH hts in_X3_perform_X3 hown F_1 rfl 9 (by decide) (hts (.fieldLink RX3 32 "LazyState$Run" "values" "[J") (by decide +kernel)) rfl dX3_perform_273 ?_
  refine lv_iload hx hb dX3_perform_276 (lv_at hl 0 rfl) ?_
  obtain ⟨g_2, hg_2, hp_2⟩ : okJ G 4 (fun _ => True) (f (k (5 + 8 * i + 7))) := hI.run (i := i) (c := 7) hi (by decide)
  refine m_lald hx hb hC hH hg_2 (vp_in_iff.mpr ⟨by omega, by omega⟩) dX3_perform_278 ?_
  refine lv_topl (fun y_3 ey_3 => ?_)
  refine m_goi hH (va_runV (As := [.int a, .int b32, .long y_3]) (rest := []) ⟨hx, hb, hml, hown, hts⟩ (c_X3_renew l G k rho n T z st f hI i hi hst a b32 y_3 (by omega)) (cwV 3 hts gX3_perform_X3_renew rfl rfl rfl (by decide +kernel) ⟨Nat.le_of_ble_eq_true rfl, Nat.le_of_ble_eq_true rfl⟩) (m_preV (ci := 3) hC hH F_1 rfl) rfl rfl hl.1 rfl (lv_room (Nat.le_of_ble_eq_true rfl)) dX3_perform_279 ⟨by show _ ≤ 3 * (ndh k i f a.toNatClampNeg); omega, by show _ ≤ 29 * (ndh k i f a.toNatClampNeg); omega⟩) (fun r_4 rho_6 f_5 H locs hw hH => ?_)
  obtain ⟨hI, hfr1, hpt_⟩ := hw
  have hI : IC G k rho_6 n T z st f_5 := hI
  have hfr1 : frC k rho f rho_6 f_5 := hfr1
  have hfr := hfr.trans hfr1
  have rr_7 := (hfr1 _ _ Fq).2.1.trans hq
  have F_8 := (hfr1 _ _ Fq).2.2 (fun j_ hj_ => hI.nk hj_ (by rw [rr_7]; simp)) (Or.inr (by rw [hq]))
  have hpt_ : nul (cpF k i f_5) 24 + ndh k i f a.toNatClampNeg = nul (cpF k i f) 24 := hpt_
  exact m_iret (v := r_4) hx hb hr hlk hC hH rho_6 ⟨hI, hfr, Or.inr hpt_⟩ (by omega) (by omega) dX3_perform_282
set_option maxHeartbeats 4000000 in
set_option maxRecDepth 100000 in
theorem c_X3_perform_11 (l : Launch) (G : mG) (k : Nat → Nat) (rho : tR) (n : Nat) (T z : Nat → Nat) (st : Nat → Bool) (f : mF) (hI : IC G k rho n T z st f) (i : Nat) (hi : i < 3) (hst : st i = true ∧ 0 < n) (q : Nat) (hq : rho q = (4, 0)) (kd a : Int32) (b : Int64) (c_ d_ e_ : Int32) (Fq : f q = some (.inr (0, [.int kd, .int a, .long b, .int c_, .int d_, .int e_]))) (b32 : Int32) (hb32 : b.toInt32 = b32) (hkd : kd.toInt = 11) (h0_ : 0 ≤ a.toInt ∧ a.toInt ≤ 3) (h1_ : 0 ≤ b.toInt ∧ b.toInt ≤ 7) (h2_ : 0 ≤ c_.toInt ∧ c_.toInt ≤ 3) (h3_ : 0 ≤ d_.toInt ∧ d_.toInt ≤ 7) (h4_ : 0 ≤ e_.toInt ∧ e_.toInt ≤ 3) : Met l yX3_perform wsX3_perform ({ frames := 5, cells := 3 * (nds k i f a.toNatClampNeg c_.toNatClampNeg), slots := 29 * (nds k i f a.toNatClampNeg c_.toNatClampNeg), locals := 155 }) (va_Pc [.ref (k (5 + 8 * i)), .ref q] (mW G f)) (va_Qi (fun (r : Int32) (u : mS) => IC G k u.1 n T z st u.2 ∧ frC k rho f u.1 u.2 ∧ (r.toInt ≠ 0 ∨ nul (cpF k i u.2) 24 + (nds k i f a.toNatClampNeg c_.toNatClampNeg) = nul (cpF k i f) 24)) (fun (u : mS) t => mW G u.2 t) (mA G)) (3 * (nds k i f a.toNatClampNeg c_.toNatClampNeg)) (29 * (nds k i f a.toNatClampNeg c_.toNatClampNeg)) (mA G) := by
  refine mMet [.ref (k (5 + 8 * i)), .ref q] (cc := cX3_perform) (maxL := 5) (ret := (some .int)) (by decide) rfl (Nat.le_of_ble_eq_true rfl) ?_
  intro p e s m below meth c ls hx hb hr hml hts hown hlk hnm hC hH hl
  have hl : lv_has ls 5 [(0, .ref (k (5 + 8 * i))), (1, .ref q)] := hl
  have hj := hI.2.2.2.2.1
  have hn24 := hI.2.2.2.2.2.2.1
  have hT3 := hI.2.2.2.2.2.2.2.1
  have hz32 := hI.2.2.2.2.2.2.2.2
  have nIn : (nI n).toInt = (n : Int) := nI_toInt (by omega)
  have hfr : frC k rho f rho f := frC.rf
  have hn0_ := hst.2
  refine lv_aload_n hx hb dX3_perform_0 rfl (lv_at hl 1 rfl) ?_
  refine m_get (ci := 0) (v := .int a) (C := RX0) (T := TX0) (N := 6) hx hb hC hH hts in_X3_perform_X0 hown Fq rfl 1 (by decide) (hts (.fieldLink RX3 110 "LazyState$Act" "a" "I") (by decide +kernel)) rfl dX3_perform_1 ?_
  refine lv_istore_n (lv' := [(2, .int a), (0, .ref (k (5 + 8 * i))), (1, .ref q)]) hx hb dX3_perform_4 rfl hl (by decide) rfl (fun ls hl => ?_)
  refine lv_aload_n hx hb dX3_perform_5 rfl (lv_at hl 2 rfl) ?_
  refine m_get (ci := 0) (v := .long b) (C := RX0) (T := TX0) (N := 6) hx hb hC hH hts in_X3_perform_X0 hown Fq rfl 2 (by decide) (hts (.fieldLink RX3 115 "LazyState$Act" "b" "J") (by decide +kernel)) rfl dX3_perform_6 ?_
  refine lv_l2i (v := b32) hx hb dX3_perform_9 hb32 ?_
  have ib32 : b32.toInt = b.toInt := ic_l2i hb32.symm rfl (by omega) (by omega)
  refine lv_istore_n (lv' := [(3, .int b32), (2, .int a), (0, .ref (k (5 + 8 * i))), (1, .ref q)]) hx hb dX3_perform_10 rfl hl (by decide) rfl (fun ls hl => ?_)
  refine lv_aload_n hx hb dX3_perform_11 rfl (lv_at hl 3 rfl) ?_
  refine m_get (ci := 0) (v := .int c_) (C := RX0) (T := TX0) (N := 6) hx hb hC hH hts in_X3_perform_X0 hown Fq rfl 3 (by decide) (hts (.fieldLink RX3 118 "LazyState$Act" "c" "I") (by decide +kernel)) rfl dX3_perform_12 ?_
  refine lv_istore (lv' := [(4, .int c_), (3, .int b32), (2, .int a), (0, .ref (k (5 + 8 * i))), (1, .ref q)]) hx hb dX3_perform_15 hl (by decide) rfl (fun ls hl => ?_)
  refine lv_aload_n hx hb dX3_perform_17 rfl (lv_at hl 4 rfl) ?_
  refine m_get (ci := 0) (v := .int kd) (C := RX0) (T := TX0) (N := 6) hx hb hC hH hts in_X3_perform_X0 hown Fq rfl 0 (by decide) (hts (.fieldLink RX3 121 "LazyState$Act" "kind" "I") (by decide +kernel)) rfl dX3_perform_18 ?_
  refine lv_tableIn (off := 262) (tgt := 283) hx hb dX3_perform_21 (by rw [hkd]; decide) (by rw [hkd]; decide) (by rw [hkd]; rfl) (by decide) ?_
  refine lv_aload_n hx hb dX3_perform_283 rfl (lv_at hl 3 rfl) ?_
  refine lv_aload_n hx hb dX3_perform_284 rfl (lv_at hl 4 rfl) ?_
  obtain ⟨lb_4, dn_4, gf_4, th_4, ta_4, sr_4, nx_4, F_4, s1_4, s2_4⟩ : okRun k st i (f (k (5 + 8 * i))) := hI.run (i := i) (c := 0) hi (by decide)
  have s3_4 := s2_4 hst.1
  subst s3_4
  refine m_goi hH (va_runV (As := [.ref q]) (rest := []) ⟨hx, hb, hml, hown, hts⟩ (c_X3_shift l G k rho n T z st f hI i hi hst q hq kd a b c_ d_ e_ Fq (by omega) (by omega) (by omega) (by omega) (by omega)) (cwV 1 hts gX3_perform_X3_shift rfl rfl rfl (by decide +kernel) ⟨Nat.le_of_ble_eq_true rfl, Nat.le_of_ble_eq_true rfl⟩) (m_preV (ci := 3) hC hH F_4 rfl) rfl rfl hl.1 rfl (lv_room (Nat.le_of_ble_eq_true rfl)) dX3_perform_285 ⟨by show _ ≤ 3 * (nds k i f a.toNatClampNeg c_.toNatClampNeg); omega, by show _ ≤ 29 * (nds k i f a.toNatClampNeg c_.toNatClampNeg); omega⟩) (fun r_1 rho_3 f_2 H locs hw hH => ?_)
  obtain ⟨hI, hfr1, hpt_⟩ := hw
  have hI : IC G k rho_3 n T z st f_2 := hI
  have hfr1 : frC k rho f rho_3 f_2 := hfr1
  have hfr := hfr.trans hfr1
  have rr_5 := (hfr1 _ _ Fq).2.1.trans hq
  have F_6 := (hfr1 _ _ Fq).2.2 (fun j_ hj_ => hI.nk hj_ (by rw [rr_5]; simp)) (Or.inr (by rw [hq]))
  try dsimp only at hpt_
  exact m_iret (v := r_1) hx hb hr hlk hC hH rho_3 ⟨hI, hfr, hpt_⟩ (by omega) (by omega) dX3_perform_288
set_option maxHeartbeats 4000000 in
set_option maxRecDepth 100000 in
theorem c_X3_perform_12 (l : Launch) (G : mG) (k : Nat → Nat) (rho : tR) (n : Nat) (T z : Nat → Nat) (st : Nat → Bool) (f : mF) (hI : IC G k rho n T z st f) (i : Nat) (hi : i < 3) (hst : st i = true ∧ 0 < n) (q : Nat) (hq : rho q = (4, 0)) (kd a : Int32) (b : Int64) (c_ d_ e_ : Int32) (Fq : f q = some (.inr (0, [.int kd, .int a, .long b, .int c_, .int d_, .int e_]))) (b32 : Int32) (hb32 : b.toInt32 = b32) (hkd : kd.toInt = 12) (h0_ : 0 ≤ a.toInt ∧ a.toInt ≤ 3) (h1_ : 0 ≤ b.toInt ∧ b.toInt ≤ 3) (h2_ : 0 ≤ c_.toInt ∧ c_.toInt ≤ 3) : Met l yX3_perform wsX3_perform ({ frames := 5, cells := 3 * (0), slots := 29 * (0), locals := 155 }) (va_Pc [.ref (k (5 + 8 * i)), .ref q] (mW G f)) (va_Qi (fun (r : Int32) (u : mS) => IC G k u.1 n T z st u.2 ∧ frC k rho f u.1 u.2 ∧ (r.toInt ≠ 0 ∨ nul (cpF k i u.2) 24 + (0) = nul (cpF k i f) 24)) (fun (u : mS) t => mW G u.2 t) (mA G)) (3 * (0)) (29 * (0)) (mA G) := by
  refine mMet [.ref (k (5 + 8 * i)), .ref q] (cc := cX3_perform) (maxL := 5) (ret := (some .int)) (by decide) rfl (Nat.le_of_ble_eq_true rfl) ?_
  intro p e s m below meth c ls hx hb hr hml hts hown hlk hnm hC hH hl
  have hl : lv_has ls 5 [(0, .ref (k (5 + 8 * i))), (1, .ref q)] := hl
  have hj := hI.2.2.2.2.1
  have hn24 := hI.2.2.2.2.2.2.1
  have hT3 := hI.2.2.2.2.2.2.2.1
  have hz32 := hI.2.2.2.2.2.2.2.2
  have nIn : (nI n).toInt = (n : Int) := nI_toInt (by omega)
  have hfr : frC k rho f rho f := frC.rf
  have hn0_ := hst.2
  refine lv_aload_n hx hb dX3_perform_0 rfl (lv_at hl 1 rfl) ?_
  refine m_get (ci := 0) (v := .int a) (C := RX0) (T := TX0) (N := 6) hx hb hC hH hts in_X3_perform_X0 hown Fq rfl 1 (by decide) (hts (.fieldLink RX3 110 "LazyState$Act" "a" "I") (by decide +kernel)) rfl dX3_perform_1 ?_
  refine lv_istore_n (lv' := [(2, .int a), (0, .ref (k (5 + 8 * i))), (1, .ref q)]) hx hb dX3_perform_4 rfl hl (by decide) rfl (fun ls hl => ?_)
  refine lv_aload_n hx hb dX3_perform_5 rfl (lv_at hl 2 rfl) ?_
  refine m_get (ci := 0) (v := .long b) (C := RX0) (T := TX0) (N := 6) hx hb hC hH hts in_X3_perform_X0 hown Fq rfl 2 (by decide) (hts (.fieldLink RX3 115 "LazyState$Act" "b" "J") (by decide +kernel)) rfl dX3_perform_6 ?_
  refine lv_l2i (v := b32) hx hb dX3_perform_9 hb32 ?_
  have ib32 : b32.toInt = b.toInt := ic_l2i hb32.symm rfl (by omega) (by omega)
  refine lv_istore_n (lv' := [(3, .int b32), (2, .int a), (0, .ref (k (5 + 8 * i))), (1, .ref q)]) hx hb dX3_perform_10 rfl hl (by decide) rfl (fun ls hl => ?_)
  refine lv_aload_n hx hb dX3_perform_11 rfl (lv_at hl 3 rfl) ?_
  refine m_get (ci := 0) (v := .int c_) (C := RX0) (T := TX0) (N := 6) hx hb hC hH hts in_X3_perform_X0 hown Fq rfl 3 (by decide) (hts (.fieldLink RX3 118 "LazyState$Act" "c" "I") (by decide +kernel)) rfl dX3_perform_12 ?_
  refine lv_istore (lv' := [(4, .int c_), (3, .int b32), (2, .int a), (0, .ref (k (5 + 8 * i))), (1, .ref q)]) hx hb dX3_perform_15 hl (by decide) rfl (fun ls hl => ?_)
  refine lv_aload_n hx hb dX3_perform_17 rfl (lv_at hl 4 rfl) ?_
  refine m_get (ci := 0) (v := .int kd) (C := RX0) (T := TX0) (N := 6) hx hb hC hH hts in_X3_perform_X0 hown Fq rfl 0 (by decide) (hts (.fieldLink RX3 121 "LazyState$Act" "kind" "I") (by decide +kernel)) rfl dX3_perform_18 ?_
  refine lv_tableIn (off := 268) (tgt := 289) hx hb dX3_perform_21 (by rw [hkd]; decide) (by rw [hkd]; decide) (by rw [hkd]; rfl) (by decide) ?_
  refine lv_aload_n hx hb dX3_perform_289 rfl (lv_at hl 3 rfl) ?_
  refine lv_iload_n hx hb dX3_perform_290 rfl (lv_at hl 2 rfl) ?_
  refine lv_aload_n hx hb dX3_perform_291 rfl (lv_at hl 3 rfl) ?_
  obtain ⟨lb_1, dn_1, gf_1, th_1, ta_1, sr_1, nx_1, F_1, s1_1, s2_1⟩ : okRun k st i (f (k (5 + 8 * i))) := hI.run (i := i) (c := 0) hi (by decide)
  have s3_1 := s2_1 hst.1
  subst s3_1
  refine m_get (ci := 3) (v := .ref (k (5 + 8 * i + 6))) (C := RX3) (T := TX3) (N := 11) hx hb hC hH hts in_X3_perform_X3 hown F_1 rfl 8 (by decide) (hts (.fieldLink RX3 28 "LazyState$Run" "handles" "[I") (by decide +kernel)) rfl dX3_perform_292 ?_
  refine lv_iload_n hx hb dX3_perform_295 rfl (lv_at hl 1 rfl) ?_
  obtain ⟨g_2, hg_2, hp_2⟩ : okI G 0 4 (pHa n) (f (k (5 + 8 * i + 6))) := hI.run (i := i) (c := 6) hi (by decide)
  refine m_iald hx hb hC hH hg_2 (vp_in_iff.mpr ⟨by omega, by omega⟩) dX3_perform_296 ?_
  refine lv_topi (fun x_3 ex_3 => ?_)
  have qx_3 := hp_2 (b32.toNatClampNeg) (ic_cl rfl (by omega) (by omega))
  rw [← ex_3] at qx_3
  refine lv_aload_n hx hb dX3_perform_297 rfl (lv_at hl 3 rfl) ?_
  refine m_get (ci := 3) (v := .ref (k (5 + 8 * i + 6))) (C := RX3) (T := TX3) (N := 11) hx hb hC hH hts in_X3_perform_X3 hown F_1 rfl 8 (by decide) (hts (.fieldLink RX3 28 "LazyState$Run" "handles" "[I") (by decide +kernel)) rfl dX3_perform_298 ?_
  refine lv_iload hx hb dX3_perform_301 (lv_at hl 0 rfl) ?_
  refine m_iald hx hb hC hH hg_2 (vp_in_iff.mpr ⟨by omega, by omega⟩) dX3_perform_303 ?_
  refine lv_topi (fun x_4 ex_4 => ?_)
  have qx_4 := hp_2 (c_.toNatClampNeg) (ic_cl rfl (by omega) (by omega))
  rw [← ex_4] at qx_4
  refine lv_icmp_ne (tgt := 311) hx hb dX3_perform_304 (by decide) (fun c_5 => ?_) (fun c_5 => ?_)
  · skip
    have ic_5 : (x_3.toInt : Int) ≠ x_4.toInt := ic_ne rfl rfl c_5
    refine lv_lconst (v := 0) hx hb dX3_perform_311 (by decide) ?_
    refine m_goi hH (va_runV (As := [.int a, .long 0]) (rest := []) ⟨hx, hb, hml, hown, hts⟩ (c_X3_setValue l G k rho n T z st f hI i hi hst a 0 (by omega)) (cwV 2 hts gX3_perform_X3_setValue rfl rfl rfl (by decide +kernel) ⟨Nat.le_of_ble_eq_true rfl, Nat.le_of_ble_eq_true rfl⟩) (m_preV (ci := 3) hC hH F_1 rfl) rfl rfl hl.1 rfl (lv_room (Nat.le_of_ble_eq_true rfl)) dX3_perform_312 ⟨by show _ ≤ 3 * (0); omega, by show _ ≤ 29 * (0); omega⟩) (fun r_6 rho_8 f_7 H locs hw hH => ?_)
    obtain ⟨hu, hI, hfr1, hkc1, hr_6⟩ := hw
    have hI : IC G k rho n T z st f_7 := hI
    have hfr1 : frC k rho f rho f_7 := hfr1
    have hfr := hfr.trans hfr1
    try dsimp only at hr_6
    exact m_iret (v := r_6) hx hb hr hlk hC hH rho ⟨hI, hfr, Or.inr (by rw [cpF_c hkc1]; rfl)⟩ (by omega) (by omega) dX3_perform_315
  · skip
    have ic_5 : (x_3.toInt : Int) = x_4.toInt := ic_eq rfl rfl c_5
    refine lv_lconst (v := 1) hx hb dX3_perform_307 (by decide) ?_
    refine lv_goto (tgt := 312) hx hb dX3_perform_308 (by decide) ?_
    refine m_goi hH (va_runV (As := [.int a, .long 1]) (rest := []) ⟨hx, hb, hml, hown, hts⟩ (c_X3_setValue l G k rho n T z st f hI i hi hst a 1 (by omega)) (cwV 2 hts gX3_perform_X3_setValue rfl rfl rfl (by decide +kernel) ⟨Nat.le_of_ble_eq_true rfl, Nat.le_of_ble_eq_true rfl⟩) (m_preV (ci := 3) hC hH F_1 rfl) rfl rfl hl.1 rfl (lv_room (Nat.le_of_ble_eq_true rfl)) dX3_perform_312 ⟨by show _ ≤ 3 * (0); omega, by show _ ≤ 29 * (0); omega⟩) (fun r_9 rho_11 f_10 H locs hw hH => ?_)
    obtain ⟨hu, hI, hfr1, hkc1, hr_9⟩ := hw
    have hI : IC G k rho n T z st f_10 := hI
    have hfr1 : frC k rho f rho f_10 := hfr1
    have hfr := hfr.trans hfr1
    try dsimp only at hr_9
    exact m_iret (v := r_9) hx hb hr hlk hC hH rho ⟨hI, hfr, Or.inr (by rw [cpF_c hkc1]; rfl)⟩ (by omega) (by omega) dX3_perform_315
set_option maxHeartbeats 4000000 in
set_option maxRecDepth 100000 in
theorem c_X3_perform_13 (l : Launch) (G : mG) (k : Nat → Nat) (rho : tR) (n : Nat) (T z : Nat → Nat) (st : Nat → Bool) (f : mF) (hI : IC G k rho n T z st f) (i : Nat) (hi : i < 3) (hst : st i = true ∧ 0 < n) (q : Nat) (hq : rho q = (4, 0)) (kd a : Int32) (b : Int64) (c_ d_ e_ : Int32) (Fq : f q = some (.inr (0, [.int kd, .int a, .long b, .int c_, .int d_, .int e_]))) (b32 : Int32) (hb32 : b.toInt32 = b32) (hkd : kd.toInt = 13) (h0_ : 0 ≤ a.toInt ∧ a.toInt ≤ 3) (h1_ : 0 ≤ b.toInt ∧ b.toInt ≤ 3) (h2_ : 0 ≤ c_.toInt ∧ c_.toInt ≤ 3) : Met l yX3_perform wsX3_perform ({ frames := 5, cells := 3 * (ndl k i f T (haF k i f b32.toNatClampNeg) (haF k i f c_.toNatClampNeg)), slots := 29 * (ndl k i f T (haF k i f b32.toNatClampNeg) (haF k i f c_.toNatClampNeg)), locals := 155 }) (va_Pc [.ref (k (5 + 8 * i)), .ref q] (mW G f)) (va_Qi (fun (r : Int32) (u : mS) => IC G k u.1 n T z st u.2 ∧ frC k rho f u.1 u.2 ∧ (r.toInt ≠ 0 ∨ nul (cpF k i u.2) 24 + (ndl k i f T (haF k i f b32.toNatClampNeg) (haF k i f c_.toNatClampNeg)) = nul (cpF k i f) 24)) (fun (u : mS) t => mW G u.2 t) (mA G)) (3 * (ndl k i f T (haF k i f b32.toNatClampNeg) (haF k i f c_.toNatClampNeg))) (29 * (ndl k i f T (haF k i f b32.toNatClampNeg) (haF k i f c_.toNatClampNeg))) (mA G) := by
  refine mMet [.ref (k (5 + 8 * i)), .ref q] (cc := cX3_perform) (maxL := 5) (ret := (some .int)) (by decide) rfl (Nat.le_of_ble_eq_true rfl) ?_
  intro p e s m below meth c ls hx hb hr hml hts hown hlk hnm hC hH hl
  have hl : lv_has ls 5 [(0, .ref (k (5 + 8 * i))), (1, .ref q)] := hl
  have hj := hI.2.2.2.2.1
  have hn24 := hI.2.2.2.2.2.2.1
  have hT3 := hI.2.2.2.2.2.2.2.1
  have hz32 := hI.2.2.2.2.2.2.2.2
  have nIn : (nI n).toInt = (n : Int) := nI_toInt (by omega)
  have hfr : frC k rho f rho f := frC.rf
  have hn0_ := hst.2
  refine lv_aload_n hx hb dX3_perform_0 rfl (lv_at hl 1 rfl) ?_
  refine m_get (ci := 0) (v := .int a) (C := RX0) (T := TX0) (N := 6) hx hb hC hH hts in_X3_perform_X0 hown Fq rfl 1 (by decide) (hts (.fieldLink RX3 110 "LazyState$Act" "a" "I") (by decide +kernel)) rfl dX3_perform_1 ?_
  refine lv_istore_n (lv' := [(2, .int a), (0, .ref (k (5 + 8 * i))), (1, .ref q)]) hx hb dX3_perform_4 rfl hl (by decide) rfl (fun ls hl => ?_)
  refine lv_aload_n hx hb dX3_perform_5 rfl (lv_at hl 2 rfl) ?_
  refine m_get (ci := 0) (v := .long b) (C := RX0) (T := TX0) (N := 6) hx hb hC hH hts in_X3_perform_X0 hown Fq rfl 2 (by decide) (hts (.fieldLink RX3 115 "LazyState$Act" "b" "J") (by decide +kernel)) rfl dX3_perform_6 ?_
  refine lv_l2i (v := b32) hx hb dX3_perform_9 hb32 ?_
  have ib32 : b32.toInt = b.toInt := ic_l2i hb32.symm rfl (by omega) (by omega)
  refine lv_istore_n (lv' := [(3, .int b32), (2, .int a), (0, .ref (k (5 + 8 * i))), (1, .ref q)]) hx hb dX3_perform_10 rfl hl (by decide) rfl (fun ls hl => ?_)
  refine lv_aload_n hx hb dX3_perform_11 rfl (lv_at hl 3 rfl) ?_
  refine m_get (ci := 0) (v := .int c_) (C := RX0) (T := TX0) (N := 6) hx hb hC hH hts in_X3_perform_X0 hown Fq rfl 3 (by decide) (hts (.fieldLink RX3 118 "LazyState$Act" "c" "I") (by decide +kernel)) rfl dX3_perform_12 ?_
  refine lv_istore (lv' := [(4, .int c_), (3, .int b32), (2, .int a), (0, .ref (k (5 + 8 * i))), (1, .ref q)]) hx hb dX3_perform_15 hl (by decide) rfl (fun ls hl => ?_)
  refine lv_aload_n hx hb dX3_perform_17 rfl (lv_at hl 4 rfl) ?_
  refine m_get (ci := 0) (v := .int kd) (C := RX0) (T := TX0) (N := 6) hx hb hC hH hts in_X3_perform_X0 hown Fq rfl 0 (by decide) (hts (.fieldLink RX3 121 "LazyState$Act" "kind" "I") (by decide +kernel)) rfl dX3_perform_18 ?_
  refine lv_tableIn (off := 295) (tgt := 316) hx hb dX3_perform_21 (by rw [hkd]; decide) (by rw [hkd]; decide) (by rw [hkd]; rfl) (by decide) ?_
  refine lv_aload_n hx hb dX3_perform_316 rfl (lv_at hl 3 rfl) ?_
  refine lv_iload_n hx hb dX3_perform_317 rfl (lv_at hl 2 rfl) ?_
  refine lv_aload_n hx hb dX3_perform_318 rfl (lv_at hl 3 rfl) ?_
  refine lv_aload_n hx hb dX3_perform_319 rfl (lv_at hl 3 rfl) ?_
  obtain ⟨lb_1, dn_1, gf_1, th_1, ta_1, sr_1, nx_1, F_1, s1_1, s2_1⟩ : okRun k st i (f (k (5 + 8 * i))) := hI.run (i := i) (c := 0) hi (by decide)
  have s3_1 := s2_1 hst.1
  subst s3_1
  refine m_get (ci := 3) (v := .ref (k (5 + 8 * i + 6))) (C := RX3) (T := TX3) (N := 11) hx hb hC hH hts in_X3_perform_X3 hown F_1 rfl 8 (by decide) (hts (.fieldLink RX3 28 "LazyState$Run" "handles" "[I") (by decide +kernel)) rfl dX3_perform_320 ?_
  refine lv_iload_n hx hb dX3_perform_323 rfl (lv_at hl 1 rfl) ?_
  obtain ⟨g_2, hg_2, hp_2⟩ : okI G 0 4 (pHa n) (f (k (5 + 8 * i + 6))) := hI.run (i := i) (c := 6) hi (by decide)
  refine m_iald hx hb hC hH hg_2 (vp_in_iff.mpr ⟨by omega, by omega⟩) dX3_perform_324 ?_
  refine lv_topi (fun x_3 ex_3 => ?_)
  have qx_3 := hp_2 (b32.toNatClampNeg) (ic_cl rfl (by omega) (by omega))
  rw [← ex_3] at qx_3
  have hb_ : haF k i f b32.toNatClampNeg = x_3 := by rw [haF_eq hg_2]; exact ex_3.symm
  refine lv_aload_n hx hb dX3_perform_325 rfl (lv_at hl 3 rfl) ?_
  refine m_get (ci := 3) (v := .ref (k (5 + 8 * i + 6))) (C := RX3) (T := TX3) (N := 11) hx hb hC hH hts in_X3_perform_X3 hown F_1 rfl 8 (by decide) (hts (.fieldLink RX3 28 "LazyState$Run" "handles" "[I") (by decide +kernel)) rfl dX3_perform_326 ?_
  refine lv_iload hx hb dX3_perform_329 (lv_at hl 0 rfl) ?_
  refine m_iald hx hb hC hH hg_2 (vp_in_iff.mpr ⟨by omega, by omega⟩) dX3_perform_331 ?_
  refine lv_topi (fun x_4 ex_4 => ?_)
  have qx_4 := hp_2 (c_.toNatClampNeg) (ic_cl rfl (by omega) (by omega))
  rw [← ex_4] at qx_4
  have hc_ : haF k i f c_.toNatClampNeg = x_4 := by rw [haF_eq hg_2]; exact ex_4.symm
  refine m_goi hH (va_runV (As := [.int x_3, .int x_4]) (rest := [.int a, .ref (k (5 + 8 * i))]) ⟨hx, hb, hml, hown, hts⟩ (c_X3_areAlike l G k rho n T z st f hI i hi hst x_3 x_4 (by omega) (by omega)) (cwV 2 hts gX3_perform_X3_areAlike rfl rfl rfl (by decide +kernel) ⟨Nat.le_of_ble_eq_true rfl, Nat.le_of_ble_eq_true rfl⟩) (m_preV (ci := 3) hC hH F_1 rfl) rfl rfl hl.1 rfl (lv_room (Nat.le_of_ble_eq_true rfl)) dX3_perform_332 ⟨by show _ ≤ 3 * (ndl k i f T (haF k i f b32.toNatClampNeg) (haF k i f c_.toNatClampNeg)); rw [hb_, hc_]; omega, by show _ ≤ 29 * (ndl k i f T (haF k i f b32.toNatClampNeg) (haF k i f c_.toNatClampNeg)); rw [hb_, hc_]; omega⟩) (fun r_5 rho_7 f_6 H locs hw hH => ?_)
  obtain ⟨hI, hfr1, hal_, hr_5⟩ := hw
  have hI : IC G k rho_7 n T z st f_6 := hI
  have hfr1 : frC k rho f rho_7 f_6 := hfr1
  have hfr := hfr.trans hfr1
  have rr_8 := (hfr1 _ _ Fq).2.1.trans hq
  have F_9 := (hfr1 _ _ Fq).2.2 (fun j_ hj_ => hI.nk hj_ (by rw [rr_8]; simp)) (Or.inr (by rw [hq]))
  have hal_ : nul (cpF k i f_6) 24 + ndl k i f T x_3 x_4 = nul (cpF k i f) 24 := hal_
  try dsimp only at hr_5
  refine lv_if_eq (tgt := 342) hx hb dX3_perform_335 (by decide) (fun c_10 => ?_) (fun c_10 => ?_)
  · skip
    have ic_10 : (r_5.toInt : Int) = 0 := ic_eq rfl kI_0 c_10
    refine lv_lconst (v := 0) hx hb dX3_perform_342 (by decide) ?_
    obtain ⟨lb_14, dn_14, gf_14, th_14, ta_14, sr_14, nx_14, F_14, s1_14, s2_14⟩ : okRun k st i (f_6 (k (5 + 8 * i))) := hI.run (i := i) (c := 0) hi (by decide)
    have s3_14 := s2_14 hst.1
    subst s3_14
    refine m_goi hH (va_runV (As := [.int a, .long 0]) (rest := []) ⟨hx, hb, hml, hown, hts⟩ (c_X3_setValue l G k rho_7 n T z st f_6 hI i hi hst a 0 (by omega)) (cwV 2 hts gX3_perform_X3_setValue rfl rfl rfl (by decide +kernel) ⟨Nat.le_of_ble_eq_true rfl, Nat.le_of_ble_eq_true rfl⟩) (m_preV (ci := 3) hC hH F_14 rfl) rfl rfl hl.1 rfl (lv_room (Nat.le_of_ble_eq_true rfl)) dX3_perform_343 ⟨by show _ ≤ 3 * (ndl k i f T (haF k i f b32.toNatClampNeg) (haF k i f c_.toNatClampNeg)); rw [hb_, hc_]; omega, by show _ ≤ 29 * (ndl k i f T (haF k i f b32.toNatClampNeg) (haF k i f c_.toNatClampNeg)); rw [hb_, hc_]; omega⟩) (fun r_11 rho_13 f_12 H locs hw hH => ?_)
    obtain ⟨hu, hI, hfr1, hkc1, hr_11⟩ := hw
    have hI : IC G k rho_7 n T z st f_12 := hI
    have hfr1 : frC k rho_7 f_6 rho_7 f_12 := hfr1
    have hfr := hfr.trans hfr1
    try dsimp only at hr_11
    exact m_iret (v := r_11) hx hb hr hlk hC hH rho_7 ⟨hI, hfr, Or.inr (by rw [cpF_c hkc1, hb_, hc_]; exact hal_)⟩ (by rw [hb_, hc_]; omega) (by rw [hb_, hc_]; omega) dX3_perform_346
  · skip
    have ic_10 : (r_5.toInt : Int) ≠ 0 := ic_ne rfl kI_0 c_10
    refine lv_lconst (v := 1) hx hb dX3_perform_338 (by decide) ?_
    refine lv_goto (tgt := 343) hx hb dX3_perform_339 (by decide) ?_
    obtain ⟨lb_18, dn_18, gf_18, th_18, ta_18, sr_18, nx_18, F_18, s1_18, s2_18⟩ : okRun k st i (f_6 (k (5 + 8 * i))) := hI.run (i := i) (c := 0) hi (by decide)
    have s3_18 := s2_18 hst.1
    subst s3_18
    refine m_goi hH (va_runV (As := [.int a, .long 1]) (rest := []) ⟨hx, hb, hml, hown, hts⟩ (c_X3_setValue l G k rho_7 n T z st f_6 hI i hi hst a 1 (by omega)) (cwV 2 hts gX3_perform_X3_setValue rfl rfl rfl (by decide +kernel) ⟨Nat.le_of_ble_eq_true rfl, Nat.le_of_ble_eq_true rfl⟩) (m_preV (ci := 3) hC hH F_18 rfl) rfl rfl hl.1 rfl (lv_room (Nat.le_of_ble_eq_true rfl)) dX3_perform_343 ⟨by show _ ≤ 3 * (ndl k i f T (haF k i f b32.toNatClampNeg) (haF k i f c_.toNatClampNeg)); rw [hb_, hc_]; omega, by show _ ≤ 29 * (ndl k i f T (haF k i f b32.toNatClampNeg) (haF k i f c_.toNatClampNeg)); rw [hb_, hc_]; omega⟩) (fun r_15 rho_17 f_16 H locs hw hH => ?_)
    obtain ⟨hu, hI, hfr1, hkc1, hr_15⟩ := hw
    have hI : IC G k rho_7 n T z st f_16 := hI
    have hfr1 : frC k rho_7 f_6 rho_7 f_16 := hfr1
    have hfr := hfr.trans hfr1
    try dsimp only at hr_15
    exact m_iret (v := r_15) hx hb hr hlk hC hH rho_7 ⟨hI, hfr, Or.inr (by rw [cpF_c hkc1, hb_, hc_]; exact hal_)⟩ (by rw [hb_, hc_]; omega) (by rw [hb_, hc_]; omega) dX3_perform_346
set_option maxHeartbeats 4000000 in
set_option maxRecDepth 100000 in
theorem c_X3_perform_14 (l : Launch) (G : mG) (k : Nat → Nat) (rho : tR) (n : Nat) (T z : Nat → Nat) (st : Nat → Bool) (f : mF) (hI : IC G k rho n T z st f) (i : Nat) (hi : i < 3) (hst : st i = true ∧ 0 < n) (q : Nat) (hq : rho q = (4, 0)) (kd a : Int32) (b : Int64) (c_ d_ e_ : Int32) (Fq : f q = some (.inr (0, [.int kd, .int a, .long b, .int c_, .int d_, .int e_]))) (b32 : Int32) (hb32 : b.toInt32 = b32) (hkd : kd.toInt = 14) (h1_ : 0 ≤ b.toInt ∧ b.toInt ≤ 32) : Met l yX3_perform wsX3_perform ({ frames := 5, cells := 3 * (0), slots := 29 * (0), locals := 155 }) (va_Pc [.ref (k (5 + 8 * i)), .ref q] (mW G f)) (va_Qi (fun (r : Int32) (u : mS) => IC G k u.1 n T z st u.2 ∧ frC k rho f u.1 u.2 ∧ (r.toInt ≠ 0 ∨ nul (cpF k i u.2) 24 + (0) = nul (cpF k i f) 24)) (fun (u : mS) t => mW G u.2 t) (mA G)) (3 * (0)) (29 * (0)) (mA G) := by
  refine mMet [.ref (k (5 + 8 * i)), .ref q] (cc := cX3_perform) (maxL := 5) (ret := (some .int)) (by decide) rfl (Nat.le_of_ble_eq_true rfl) ?_
  intro p e s m below meth c ls hx hb hr hml hts hown hlk hnm hC hH hl
  have hl : lv_has ls 5 [(0, .ref (k (5 + 8 * i))), (1, .ref q)] := hl
  have hj := hI.2.2.2.2.1
  have hn24 := hI.2.2.2.2.2.2.1
  have hT3 := hI.2.2.2.2.2.2.2.1
  have hz32 := hI.2.2.2.2.2.2.2.2
  have nIn : (nI n).toInt = (n : Int) := nI_toInt (by omega)
  have hfr : frC k rho f rho f := frC.rf
  have hn0_ := hst.2
  refine lv_aload_n hx hb dX3_perform_0 rfl (lv_at hl 1 rfl) ?_
  refine m_get (ci := 0) (v := .int a) (C := RX0) (T := TX0) (N := 6) hx hb hC hH hts in_X3_perform_X0 hown Fq rfl 1 (by decide) (hts (.fieldLink RX3 110 "LazyState$Act" "a" "I") (by decide +kernel)) rfl dX3_perform_1 ?_
  refine lv_istore_n (lv' := [(2, .int a), (0, .ref (k (5 + 8 * i))), (1, .ref q)]) hx hb dX3_perform_4 rfl hl (by decide) rfl (fun ls hl => ?_)
  refine lv_aload_n hx hb dX3_perform_5 rfl (lv_at hl 2 rfl) ?_
  refine m_get (ci := 0) (v := .long b) (C := RX0) (T := TX0) (N := 6) hx hb hC hH hts in_X3_perform_X0 hown Fq rfl 2 (by decide) (hts (.fieldLink RX3 115 "LazyState$Act" "b" "J") (by decide +kernel)) rfl dX3_perform_6 ?_
  refine lv_l2i (v := b32) hx hb dX3_perform_9 hb32 ?_
  have ib32 : b32.toInt = b.toInt := ic_l2i hb32.symm rfl (by omega) (by omega)
  refine lv_istore_n (lv' := [(3, .int b32), (2, .int a), (0, .ref (k (5 + 8 * i))), (1, .ref q)]) hx hb dX3_perform_10 rfl hl (by decide) rfl (fun ls hl => ?_)
  refine lv_aload_n hx hb dX3_perform_11 rfl (lv_at hl 3 rfl) ?_
  refine m_get (ci := 0) (v := .int c_) (C := RX0) (T := TX0) (N := 6) hx hb hC hH hts in_X3_perform_X0 hown Fq rfl 3 (by decide) (hts (.fieldLink RX3 118 "LazyState$Act" "c" "I") (by decide +kernel)) rfl dX3_perform_12 ?_
  refine lv_istore (lv' := [(4, .int c_), (3, .int b32), (2, .int a), (0, .ref (k (5 + 8 * i))), (1, .ref q)]) hx hb dX3_perform_15 hl (by decide) rfl (fun ls hl => ?_)
  refine lv_aload_n hx hb dX3_perform_17 rfl (lv_at hl 4 rfl) ?_
  refine m_get (ci := 0) (v := .int kd) (C := RX0) (T := TX0) (N := 6) hx hb hC hH hts in_X3_perform_X0 hown Fq rfl 0 (by decide) (hts (.fieldLink RX3 121 "LazyState$Act" "kind" "I") (by decide +kernel)) rfl dX3_perform_18 ?_
  refine lv_tableIn (off := 326) (tgt := 347) hx hb dX3_perform_21 (by rw [hkd]; decide) (by rw [hkd]; decide) (by rw [hkd]; rfl) (by decide) ?_
  refine lv_aload_n hx hb dX3_perform_347 rfl (lv_at hl 3 rfl) ?_
  refine lv_iload_n hx hb dX3_perform_348 rfl (lv_at hl 1 rfl) ?_
  obtain ⟨lb_4, dn_4, gf_4, th_4, ta_4, sr_4, nx_4, F_4, s1_4, s2_4⟩ : okRun k st i (f (k (5 + 8 * i))) := hI.run (i := i) (c := 0) hi (by decide)
  have s3_4 := s2_4 hst.1
  subst s3_4
  refine m_goi hH (va_runV (As := [.int b32]) (rest := []) ⟨hx, hb, hml, hown, hts⟩ (c_X3_goOnAt l G k rho n T z st f hI i hi hst b32) (cwV 1 hts gX3_perform_X3_goOnAt rfl rfl rfl (by decide +kernel) ⟨Nat.le_of_ble_eq_true rfl, Nat.le_of_ble_eq_true rfl⟩) (m_preV (ci := 3) hC hH F_4 rfl) rfl rfl hl.1 rfl (lv_room (Nat.le_of_ble_eq_true rfl)) dX3_perform_349 ⟨by show _ ≤ 3 * (0); omega, by show _ ≤ 29 * (0); omega⟩) (fun r_1 rho_3 f_2 H locs hw hH => ?_)
  obtain ⟨hu, hI, hfr1, hkc1, hr_1⟩ := hw
  have hI : IC G k rho n T z st f_2 := hI
  have hfr1 : frC k rho f rho f_2 := hfr1
  have hfr := hfr.trans hfr1
  try dsimp only at hr_1
  exact m_iret (v := r_1) hx hb hr hlk hC hH rho ⟨hI, hfr, Or.inr (by rw [cpF_c hkc1]; rfl)⟩ (by omega) (by omega) dX3_perform_352
set_option maxHeartbeats 4000000 in
set_option maxRecDepth 100000 in
theorem c_X3_perform_15 (l : Launch) (G : mG) (k : Nat → Nat) (rho : tR) (n : Nat) (T z : Nat → Nat) (st : Nat → Bool) (f : mF) (hI : IC G k rho n T z st f) (i : Nat) (hi : i < 3) (hst : st i = true ∧ 0 < n) (q : Nat) (hq : rho q = (4, 0)) (kd a : Int32) (b : Int64) (c_ d_ e_ : Int32) (Fq : f q = some (.inr (0, [.int kd, .int a, .long b, .int c_, .int d_, .int e_]))) (b32 : Int32) (hb32 : b.toInt32 = b32) (hkd : kd.toInt = 15) (h0_ : 0 ≤ a.toInt ∧ a.toInt ≤ 3) (h1_ : 0 ≤ b.toInt ∧ b.toInt ≤ 32) : Met l yX3_perform wsX3_perform ({ frames := 5, cells := 3 * (0), slots := 29 * (0), locals := 155 }) (va_Pc [.ref (k (5 + 8 * i)), .ref q] (mW G f)) (va_Qi (fun (r : Int32) (u : mS) => IC G k u.1 n T z st u.2 ∧ frC k rho f u.1 u.2 ∧ (r.toInt ≠ 0 ∨ nul (cpF k i u.2) 24 + (0) = nul (cpF k i f) 24)) (fun (u : mS) t => mW G u.2 t) (mA G)) (3 * (0)) (29 * (0)) (mA G) := by
  refine mMet [.ref (k (5 + 8 * i)), .ref q] (cc := cX3_perform) (maxL := 5) (ret := (some .int)) (by decide) rfl (Nat.le_of_ble_eq_true rfl) ?_
  intro p e s m below meth c ls hx hb hr hml hts hown hlk hnm hC hH hl
  have hl : lv_has ls 5 [(0, .ref (k (5 + 8 * i))), (1, .ref q)] := hl
  have hj := hI.2.2.2.2.1
  have hn24 := hI.2.2.2.2.2.2.1
  have hT3 := hI.2.2.2.2.2.2.2.1
  have hz32 := hI.2.2.2.2.2.2.2.2
  have nIn : (nI n).toInt = (n : Int) := nI_toInt (by omega)
  have hfr : frC k rho f rho f := frC.rf
  have hn0_ := hst.2
  refine lv_aload_n hx hb dX3_perform_0 rfl (lv_at hl 1 rfl) ?_
  refine m_get (ci := 0) (v := .int a) (C := RX0) (T := TX0) (N := 6) hx hb hC hH hts in_X3_perform_X0 hown Fq rfl 1 (by decide) (hts (.fieldLink RX3 110 "LazyState$Act" "a" "I") (by decide +kernel)) rfl dX3_perform_1 ?_
  refine lv_istore_n (lv' := [(2, .int a), (0, .ref (k (5 + 8 * i))), (1, .ref q)]) hx hb dX3_perform_4 rfl hl (by decide) rfl (fun ls hl => ?_)
  refine lv_aload_n hx hb dX3_perform_5 rfl (lv_at hl 2 rfl) ?_
  refine m_get (ci := 0) (v := .long b) (C := RX0) (T := TX0) (N := 6) hx hb hC hH hts in_X3_perform_X0 hown Fq rfl 2 (by decide) (hts (.fieldLink RX3 115 "LazyState$Act" "b" "J") (by decide +kernel)) rfl dX3_perform_6 ?_
  refine lv_l2i (v := b32) hx hb dX3_perform_9 hb32 ?_
  have ib32 : b32.toInt = b.toInt := ic_l2i hb32.symm rfl (by omega) (by omega)
  refine lv_istore_n (lv' := [(3, .int b32), (2, .int a), (0, .ref (k (5 + 8 * i))), (1, .ref q)]) hx hb dX3_perform_10 rfl hl (by decide) rfl (fun ls hl => ?_)
  refine lv_aload_n hx hb dX3_perform_11 rfl (lv_at hl 3 rfl) ?_
  refine m_get (ci := 0) (v := .int c_) (C := RX0) (T := TX0) (N := 6) hx hb hC hH hts in_X3_perform_X0 hown Fq rfl 3 (by decide) (hts (.fieldLink RX3 118 "LazyState$Act" "c" "I") (by decide +kernel)) rfl dX3_perform_12 ?_
  refine lv_istore (lv' := [(4, .int c_), (3, .int b32), (2, .int a), (0, .ref (k (5 + 8 * i))), (1, .ref q)]) hx hb dX3_perform_15 hl (by decide) rfl (fun ls hl => ?_)
  refine lv_aload_n hx hb dX3_perform_17 rfl (lv_at hl 4 rfl) ?_
  refine m_get (ci := 0) (v := .int kd) (C := RX0) (T := TX0) (N := 6) hx hb hC hH hts in_X3_perform_X0 hown Fq rfl 0 (by decide) (hts (.fieldLink RX3 121 "LazyState$Act" "kind" "I") (by decide +kernel)) rfl dX3_perform_18 ?_
  refine lv_tableIn (off := 332) (tgt := 353) hx hb dX3_perform_21 (by rw [hkd]; decide) (by rw [hkd]; decide) (by rw [hkd]; rfl) (by decide) ?_
  refine lv_aload_n hx hb dX3_perform_353 rfl (lv_at hl 3 rfl) ?_
  obtain ⟨lb_1, dn_1, gf_1, th_1, ta_1, sr_1, nx_1, F_1, s1_1, s2_1⟩ : okRun k st i (f (k (5 + 8 * i))) := hI.run (i := i) (c := 0) hi (by decide)
  have s3_1 := s2_1 hst.1
  subst s3_1
  refine m_get (ci := 3) (v := .ref (k (5 + 8 * i + 7))) (C := RX3) (T := TX3) (N := 11) hx hb hC hH hts in_X3_perform_X3 hown F_1 rfl 9 (by decide) (hts (.fieldLink RX3 32 "LazyState$Run" "values" "[J") (by decide +kernel)) rfl dX3_perform_354 ?_
  refine lv_iload_n hx hb dX3_perform_357 rfl (lv_at hl 2 rfl) ?_
  obtain ⟨g_2, hg_2, hp_2⟩ : okJ G 4 (fun _ => True) (f (k (5 + 8 * i + 7))) := hI.run (i := i) (c := 7) hi (by decide)
  refine m_lald hx hb hC hH hg_2 (vp_in_iff.mpr ⟨by omega, by omega⟩) dX3_perform_358 ?_
  refine lv_topl (fun y_3 ey_3 => ?_)
  refine lv_lconst (v := 0) hx hb dX3_perform_359 (by decide) ?_
  refine W.lcmp hx hb dX3_perform_360 ?_
  refine lv_if_le (tgt := 372) hx hb dX3_perform_361 (by decide) (fun c_4 => ?_) (fun c_4 => ?_)
  · skip
    have ic_4 : (y_3.toInt : Int) ≤ 0 := lc_le rfl kJ_0 ((lg_cmp_le _ _).mp c_4)
    refine lv_iconst (v := 0) hx hb dX3_perform_372 (by decide) ?_
    exact m_iret (v := 0) hx hb hr hlk hC hH rho ⟨hI, hfr, Or.inr rfl⟩ (by omega) (by omega) dX3_perform_373
  · skip
    have ic_4 : (y_3.toInt : Int) > 0 := lc_nle rfl kJ_0 (fun q_ => c_4 ((lg_cmp_le _ _).mpr q_))
    refine lv_aload_n hx hb dX3_perform_364 rfl (lv_at hl 3 rfl) ?_
    refine lv_iload_n hx hb dX3_perform_365 rfl (lv_at hl 1 rfl) ?_
    refine m_goi hH (va_runV (As := [.int b32]) (rest := []) ⟨hx, hb, hml, hown, hts⟩ (c_X3_goOnAt l G k rho n T z st f hI i hi hst b32) (cwV 1 hts gX3_perform_X3_goOnAt rfl rfl rfl (by decide +kernel) ⟨Nat.le_of_ble_eq_true rfl, Nat.le_of_ble_eq_true rfl⟩) (m_preV (ci := 3) hC hH F_1 rfl) rfl rfl hl.1 rfl (lv_room (Nat.le_of_ble_eq_true rfl)) dX3_perform_366 ⟨by show _ ≤ 3 * (0); omega, by show _ ≤ 29 * (0); omega⟩) (fun r_5 rho_7 f_6 H locs hw hH => ?_)
    obtain ⟨hu, hI, hfr1, hkc1, hr_5⟩ := hw
    have hI : IC G k rho n T z st f_6 := hI
    have hfr1 : frC k rho f rho f_6 := hfr1
    have hfr := hfr.trans hfr1
    try dsimp only at hr_5
    refine lv_goto (tgt := 373) hx hb dX3_perform_369 (by decide) ?_
    exact m_iret (v := r_5) hx hb hr hlk hC hH rho ⟨hI, hfr, Or.inr (by rw [cpF_c hkc1]; rfl)⟩ (by omega) (by omega) dX3_perform_373
set_option maxHeartbeats 4000000 in
set_option maxRecDepth 100000 in
theorem c_X3_perform_16 (l : Launch) (G : mG) (k : Nat → Nat) (rho : tR) (n : Nat) (T z : Nat → Nat) (st : Nat → Bool) (f : mF) (hI : IC G k rho n T z st f) (i : Nat) (hi : i < 3) (hst : st i = true ∧ 0 < n) (q : Nat) (hq : rho q = (4, 0)) (kd a : Int32) (b : Int64) (c_ d_ e_ : Int32) (Fq : f q = some (.inr (0, [.int kd, .int a, .long b, .int c_, .int d_, .int e_]))) (b32 : Int32) (hb32 : b.toInt32 = b32) (hkd : kd.toInt = 16) (h0_ : 0 ≤ a.toInt ∧ a.toInt ≤ 3) : Met l yX3_perform wsX3_perform ({ frames := 5, cells := 3 * (0), slots := 29 * (0), locals := 155 }) (va_Pc [.ref (k (5 + 8 * i)), .ref q] (mW G f)) (va_Qi (fun (r : Int32) (u : mS) => IC G k u.1 n T z st u.2 ∧ frC k rho f u.1 u.2 ∧ (r.toInt ≠ 0 ∨ nul (cpF k i u.2) 24 + (0) = nul (cpF k i f) 24)) (fun (u : mS) t => mW G u.2 t) (mA G)) (3 * (0)) (29 * (0)) (mA G) := by
  refine mMet [.ref (k (5 + 8 * i)), .ref q] (cc := cX3_perform) (maxL := 5) (ret := (some .int)) (by decide) rfl (Nat.le_of_ble_eq_true rfl) ?_
  intro p e s m below meth c ls hx hb hr hml hts hown hlk hnm hC hH hl
  have hl : lv_has ls 5 [(0, .ref (k (5 + 8 * i))), (1, .ref q)] := hl
  have hj := hI.2.2.2.2.1
  have hn24 := hI.2.2.2.2.2.2.1
  have hT3 := hI.2.2.2.2.2.2.2.1
  have hz32 := hI.2.2.2.2.2.2.2.2
  have nIn : (nI n).toInt = (n : Int) := nI_toInt (by omega)
  have hfr : frC k rho f rho f := frC.rf
  have hn0_ := hst.2
  refine lv_aload_n hx hb dX3_perform_0 rfl (lv_at hl 1 rfl) ?_
  refine m_get (ci := 0) (v := .int a) (C := RX0) (T := TX0) (N := 6) hx hb hC hH hts in_X3_perform_X0 hown Fq rfl 1 (by decide) (hts (.fieldLink RX3 110 "LazyState$Act" "a" "I") (by decide +kernel)) rfl dX3_perform_1 ?_
  refine lv_istore_n (lv' := [(2, .int a), (0, .ref (k (5 + 8 * i))), (1, .ref q)]) hx hb dX3_perform_4 rfl hl (by decide) rfl (fun ls hl => ?_)
  refine lv_aload_n hx hb dX3_perform_5 rfl (lv_at hl 2 rfl) ?_
  refine m_get (ci := 0) (v := .long b) (C := RX0) (T := TX0) (N := 6) hx hb hC hH hts in_X3_perform_X0 hown Fq rfl 2 (by decide) (hts (.fieldLink RX3 115 "LazyState$Act" "b" "J") (by decide +kernel)) rfl dX3_perform_6 ?_
  refine lv_l2i (v := b32) hx hb dX3_perform_9 hb32 ?_
  refine lv_istore_n (lv' := [(3, .int b32), (2, .int a), (0, .ref (k (5 + 8 * i))), (1, .ref q)]) hx hb dX3_perform_10 rfl hl (by decide) rfl (fun ls hl => ?_)
  refine lv_aload_n hx hb dX3_perform_11 rfl (lv_at hl 3 rfl) ?_
  refine m_get (ci := 0) (v := .int c_) (C := RX0) (T := TX0) (N := 6) hx hb hC hH hts in_X3_perform_X0 hown Fq rfl 3 (by decide) (hts (.fieldLink RX3 118 "LazyState$Act" "c" "I") (by decide +kernel)) rfl dX3_perform_12 ?_
  refine lv_istore (lv' := [(4, .int c_), (3, .int b32), (2, .int a), (0, .ref (k (5 + 8 * i))), (1, .ref q)]) hx hb dX3_perform_15 hl (by decide) rfl (fun ls hl => ?_)
  refine lv_aload_n hx hb dX3_perform_17 rfl (lv_at hl 4 rfl) ?_
  refine m_get (ci := 0) (v := .int kd) (C := RX0) (T := TX0) (N := 6) hx hb hC hH hts in_X3_perform_X0 hown Fq rfl 0 (by decide) (hts (.fieldLink RX3 121 "LazyState$Act" "kind" "I") (by decide +kernel)) rfl dX3_perform_18 ?_
  refine lv_tableIn (off := 353) (tgt := 374) hx hb dX3_perform_21 (by rw [hkd]; decide) (by rw [hkd]; decide) (by rw [hkd]; rfl) (by decide) ?_
  refine lv_aload_n hx hb dX3_perform_374 rfl (lv_at hl 3 rfl) ?_
  refine lv_aload_n hx hb dX3_perform_375 rfl (lv_at hl 3 rfl) ?_
  obtain ⟨lb_1, dn_1, gf_1, th_1, ta_1, sr_1, nx_1, F_1, s1_1, s2_1⟩ : okRun k st i (f (k (5 + 8 * i))) := hI.run (i := i) (c := 0) hi (by decide)
  have s3_1 := s2_1 hst.1
  subst s3_1
  refine m_get (ci := 3) (v := .ref (k (5 + 8 * i + 7))) (C := RX3) (T := TX3) (N := 11) hx hb hC hH hts in_X3_perform_X3 hown F_1 rfl 9 (by decide) (hts (.fieldLink RX3 32 "LazyState$Run" "values" "[J") (by decide +kernel)) rfl dX3_perform_376 ?_
  refine lv_iload_n hx hb dX3_perform_379 rfl (lv_at hl 2 rfl) ?_
  obtain ⟨g_2, hg_2, hp_2⟩ : okJ G 4 (fun _ => True) (f (k (5 + 8 * i + 7))) := hI.run (i := i) (c := 7) hi (by decide)
  refine m_lald hx hb hC hH hg_2 (vp_in_iff.mpr ⟨by omega, by omega⟩) dX3_perform_380 ?_
  refine lv_topl (fun y_3 ey_3 => ?_)
  refine m_goi hH (va_runV (As := [.long y_3]) (rest := []) ⟨hx, hb, hml, hown, hts⟩ (c_X3_end l G k rho n T z st f hI i hi hst y_3) (cwV 1 hts gX3_perform_X3_end rfl rfl rfl (by decide +kernel) ⟨Nat.le_of_ble_eq_true rfl, Nat.le_of_ble_eq_true rfl⟩) (m_preV (ci := 3) hC hH F_1 rfl) rfl rfl hl.1 rfl (lv_room (Nat.le_of_ble_eq_true rfl)) dX3_perform_381 ⟨by show _ ≤ 3 * (0); omega, by show _ ≤ 29 * (0); omega⟩) (fun r_4 rho_6 f_5 H locs hw hH => ?_)
  obtain ⟨hu, hI, hfr1, hkc1, hr_4⟩ := hw
  have hI : IC G k rho n T z st f_5 := hI
  have hfr1 : frC k rho f rho f_5 := hfr1
  have hfr := hfr.trans hfr1
  try dsimp only at hr_4
  exact m_iret (v := r_4) hx hb hr hlk hC hH rho ⟨hI, hfr, Or.inr (by rw [cpF_c hkc1]; rfl)⟩ (by omega) (by omega) dX3_perform_384
set_option maxHeartbeats 4000000 in
set_option maxRecDepth 100000 in
theorem c_X3_perform_17 (l : Launch) (G : mG) (k : Nat → Nat) (rho : tR) (n : Nat) (T z : Nat → Nat) (st : Nat → Bool) (f : mF) (hI : IC G k rho n T z st f) (i : Nat) (hi : i < 3) (hst : st i = true ∧ 0 < n) (q : Nat) (hq : rho q = (4, 0)) (kd a : Int32) (b : Int64) (c_ d_ e_ : Int32) (Fq : f q = some (.inr (0, [.int kd, .int a, .long b, .int c_, .int d_, .int e_]))) (b32 : Int32) (hb32 : b.toInt32 = b32) (hkd : kd.toInt = 17) : Met l yX3_perform wsX3_perform ({ frames := 5, cells := 3 * (0), slots := 29 * (0), locals := 155 }) (va_Pc [.ref (k (5 + 8 * i)), .ref q] (mW G f)) (va_Qi (fun (r : Int32) (u : mS) => IC G k u.1 n T z st u.2 ∧ frC k rho f u.1 u.2 ∧ (r.toInt ≠ 0 ∨ nul (cpF k i u.2) 24 + (0) = nul (cpF k i f) 24)) (fun (u : mS) t => mW G u.2 t) (mA G)) (3 * (0)) (29 * (0)) (mA G) := by
  refine mMet [.ref (k (5 + 8 * i)), .ref q] (cc := cX3_perform) (maxL := 5) (ret := (some .int)) (by decide) rfl (Nat.le_of_ble_eq_true rfl) ?_
  intro p e s m below meth c ls hx hb hr hml hts hown hlk hnm hC hH hl
  have hl : lv_has ls 5 [(0, .ref (k (5 + 8 * i))), (1, .ref q)] := hl
  have hj := hI.2.2.2.2.1
  have hn24 := hI.2.2.2.2.2.2.1
  have hT3 := hI.2.2.2.2.2.2.2.1
  have hz32 := hI.2.2.2.2.2.2.2.2
  have nIn : (nI n).toInt = (n : Int) := nI_toInt (by omega)
  have hfr : frC k rho f rho f := frC.rf
  have hn0_ := hst.2
  refine lv_aload_n hx hb dX3_perform_0 rfl (lv_at hl 1 rfl) ?_
  refine m_get (ci := 0) (v := .int a) (C := RX0) (T := TX0) (N := 6) hx hb hC hH hts in_X3_perform_X0 hown Fq rfl 1 (by decide) (hts (.fieldLink RX3 110 "LazyState$Act" "a" "I") (by decide +kernel)) rfl dX3_perform_1 ?_
  refine lv_istore_n (lv' := [(2, .int a), (0, .ref (k (5 + 8 * i))), (1, .ref q)]) hx hb dX3_perform_4 rfl hl (by decide) rfl (fun ls hl => ?_)
  refine lv_aload_n hx hb dX3_perform_5 rfl (lv_at hl 2 rfl) ?_
  refine m_get (ci := 0) (v := .long b) (C := RX0) (T := TX0) (N := 6) hx hb hC hH hts in_X3_perform_X0 hown Fq rfl 2 (by decide) (hts (.fieldLink RX3 115 "LazyState$Act" "b" "J") (by decide +kernel)) rfl dX3_perform_6 ?_
  refine lv_l2i (v := b32) hx hb dX3_perform_9 hb32 ?_
  refine lv_istore_n (lv' := [(3, .int b32), (2, .int a), (0, .ref (k (5 + 8 * i))), (1, .ref q)]) hx hb dX3_perform_10 rfl hl (by decide) rfl (fun ls hl => ?_)
  refine lv_aload_n hx hb dX3_perform_11 rfl (lv_at hl 3 rfl) ?_
  refine m_get (ci := 0) (v := .int c_) (C := RX0) (T := TX0) (N := 6) hx hb hC hH hts in_X3_perform_X0 hown Fq rfl 3 (by decide) (hts (.fieldLink RX3 118 "LazyState$Act" "c" "I") (by decide +kernel)) rfl dX3_perform_12 ?_
  refine lv_istore (lv' := [(4, .int c_), (3, .int b32), (2, .int a), (0, .ref (k (5 + 8 * i))), (1, .ref q)]) hx hb dX3_perform_15 hl (by decide) rfl (fun ls hl => ?_)
  refine lv_aload_n hx hb dX3_perform_17 rfl (lv_at hl 4 rfl) ?_
  refine m_get (ci := 0) (v := .int kd) (C := RX0) (T := TX0) (N := 6) hx hb hC hH hts in_X3_perform_X0 hown Fq rfl 0 (by decide) (hts (.fieldLink RX3 121 "LazyState$Act" "kind" "I") (by decide +kernel)) rfl dX3_perform_18 ?_
  refine lv_tableIn (off := 364) (tgt := 385) hx hb dX3_perform_21 (by rw [hkd]; decide) (by rw [hkd]; decide) (by rw [hkd]; rfl) (by decide) ?_
  refine lv_bipush (v := 6) hx hb dX3_perform_385 (by decide) ?_
  exact m_iret (v := 6) hx hb hr hlk hC hH rho ⟨hI, hfr, Or.inl (by have := kI_6; omega)⟩ (by omega) (by omega) dX3_perform_387
set_option maxHeartbeats 4000000 in
theorem c_X3_perform (l : Launch) (G : mG) (k : Nat → Nat) (rho : tR) (n : Nat) (T z : Nat → Nat) (st : Nat → Bool) (f : mF) (hI : IC G k rho n T z st f) (i : Nat) (hi : i < 3) (hst : st i = true ∧ 0 < n) (q : Nat) (hq : rho q = (4, 0)) (kd a : Int32) (b : Int64) (c_ d_ e_ : Int32) (Fq : f q = some (.inr (0, [.int kd, .int a, .long b, .int c_, .int d_, .int e_]))) (b32 : Int32) (hb32 : b.toInt32 = b32) (hok : okA (kd, a, b, c_, d_, e_)) : ∃ cx : Nat, cx ≤ 2 ∧ Met l yX3_perform wsX3_perform ({ frames := 5, cells := 3 * cx, slots := 29 * cx, locals := 155 }) (va_Pc [.ref (k (5 + 8 * i)), .ref q] (mW G f)) (va_Qi (fun (r : Int32) (u : mS) => IC G k u.1 n T z st u.2 ∧ frC k rho f u.1 u.2 ∧ (r.toInt ≠ 0 ∨ nul (cpF k i u.2) 24 + cx = nul (cpF k i f) 24)) (fun (u : mS) t => mW G u.2 t) (mA G)) (3 * cx) (29 * cx) (mA G) := by
  obtain ⟨κ, hκ, e1, f0, f1, f2, f3, f4⟩ := hok
  have iκ : kd.toInt = κ := ic_nI e1 (by omega)
  have hc : κ = 0 ∨ κ = 1 ∨ κ = 2 ∨ κ = 3 ∨ κ = 4 ∨ κ = 5 ∨ κ = 6 ∨ κ = 7 ∨ κ = 8 ∨ κ = 9 ∨ κ = 10 ∨ κ = 11 ∨ κ = 12 ∨ κ = 13 ∨ κ = 14 ∨ κ = 15 ∨ κ = 16 ∨ κ = 17 := by omega
  rcases hc with rfl | rfl | rfl | rfl | rfl | rfl | rfl | rfl | rfl | rfl | rfl | rfl | rfl | rfl | rfl | rfl | rfl | rfl
  · exact ⟨0, (by omega), c_X3_perform_0 l G k rho n T z st f hI i hi hst q hq kd a b c_ d_ e_ Fq b32 hb32 iκ (fit_get (m := 3) rfl (by decide) kI_3 f0)⟩
  · exact ⟨0, (by omega), c_X3_perform_1 l G k rho n T z st f hI i hi hst q hq kd a b c_ d_ e_ Fq b32 hb32 iκ (fit_get (m := 3) rfl (by decide) kI_3 f0) (fit_get (m := 3) rfl (by decide) kI_3 f1) (fit_get (m := 3) rfl (by decide) kI_3 f2)⟩
  · exact ⟨0, (by omega), c_X3_perform_2 l G k rho n T z st f hI i hi hst q hq kd a b c_ d_ e_ Fq b32 hb32 iκ (fit_get (m := 3) rfl (by decide) kI_3 f0) (fit_get (m := 3) rfl (by decide) kI_3 f1) (fit_get (m := 3) rfl (by decide) kI_3 f2)⟩
  · exact ⟨0, (by omega), c_X3_perform_3 l G k rho n T z st f hI i hi hst q hq kd a b c_ d_ e_ Fq b32 hb32 iκ (fit_get (m := 3) rfl (by decide) kI_3 f0) (fit_get (m := 3) rfl (by decide) kI_3 f1) (fit_get (m := 3) rfl (by decide) kI_3 f2)⟩
  · exact ⟨ndh k i f b32.toNatClampNeg, (Nat.le_trans ndh_le (by omega)), c_X3_perform_4 l G k rho n T z st f hI i hi hst q hq kd a b c_ d_ e_ Fq b32 hb32 iκ (fit_get (m := 3) rfl (by decide) kI_3 f0) (fit_get (m := 3) rfl (by decide) kI_3 f1) (fit_get (m := 7) rfl (by decide) kI_7 f2)⟩
  · exact ⟨ndh k i f a.toNatClampNeg, (Nat.le_trans ndh_le (by omega)), c_X3_perform_5 l G k rho n T z st f hI i hi hst q hq kd a b c_ d_ e_ Fq b32 hb32 iκ (fit_get (m := 3) rfl (by decide) kI_3 f0) (fit_get (m := 7) rfl (by decide) kI_7 f1) (fit_get (m := 3) rfl (by decide) kI_3 f2)⟩
  · exact ⟨ndh k i f b32.toNatClampNeg, (Nat.le_trans ndh_le (by omega)), c_X3_perform_6 l G k rho n T z st f hI i hi hst q hq kd a b c_ d_ e_ Fq b32 hb32 iκ (fit_get (m := 3) rfl (by decide) kI_3 f0) (fit_get (m := 3) rfl (by decide) kI_3 f1) (fit_get (m := 7) rfl (by decide) kI_7 f2)⟩
  · exact ⟨ndh k i f a.toNatClampNeg, (Nat.le_trans ndh_le (by omega)), c_X3_perform_7 l G k rho n T z st f hI i hi hst q hq kd a b c_ d_ e_ Fq b32 hb32 iκ (fit_get (m := 3) rfl (by decide) kI_3 f0) (fit_get (m := 7) rfl (by decide) kI_7 f1) (fit_get (m := 3) rfl (by decide) kI_3 f2)⟩
  · exact ⟨ndh k i f b32.toNatClampNeg, (Nat.le_trans ndh_le (by omega)), c_X3_perform_8 l G k rho n T z st f hI i hi hst q hq kd a b c_ d_ e_ Fq b32 hb32 iκ (fit_get (m := 3) rfl (by decide) kI_3 f0) (fit_get (m := 3) rfl (by decide) kI_3 f1) (fit_get (m := 7) rfl (by decide) kI_7 f2) (fit_get (m := 3) rfl (by decide) kI_3 f3)⟩
  · exact ⟨ndh k i f a.toNatClampNeg, (Nat.le_trans ndh_le (by omega)), c_X3_perform_9 l G k rho n T z st f hI i hi hst q hq kd a b c_ d_ e_ Fq b32 hb32 iκ (fit_get (m := 3) rfl (by decide) kI_3 f0) (fit_get (m := 7) rfl (by decide) kI_7 f1) (fit_get (m := 3) rfl (by decide) kI_3 f2) (fit_get (m := 3) rfl (by decide) kI_3 f3)⟩
  · exact ⟨ndh k i f a.toNatClampNeg, (Nat.le_trans ndh_le (by omega)), c_X3_perform_10 l G k rho n T z st f hI i hi hst q hq kd a b c_ d_ e_ Fq b32 hb32 iκ (fit_get (m := 3) rfl (by decide) kI_3 f0) (fit_get (m := 7) rfl (by decide) kI_7 f1) (fit_get (m := 3) rfl (by decide) kI_3 f2)⟩
  · exact ⟨nds k i f a.toNatClampNeg c_.toNatClampNeg, nds_le, c_X3_perform_11 l G k rho n T z st f hI i hi hst q hq kd a b c_ d_ e_ Fq b32 hb32 iκ (fit_get (m := 3) rfl (by decide) kI_3 f0) (fit_get (m := 7) rfl (by decide) kI_7 f1) (fit_get (m := 3) rfl (by decide) kI_3 f2) (fit_get (m := 7) rfl (by decide) kI_7 f3) (fit_get (m := 3) rfl (by decide) kI_3 f4)⟩
  · exact ⟨0, (by omega), c_X3_perform_12 l G k rho n T z st f hI i hi hst q hq kd a b c_ d_ e_ Fq b32 hb32 iκ (fit_get (m := 3) rfl (by decide) kI_3 f0) (fit_get (m := 3) rfl (by decide) kI_3 f1) (fit_get (m := 3) rfl (by decide) kI_3 f2)⟩
  · exact ⟨ndl k i f T (haF k i f b32.toNatClampNeg) (haF k i f c_.toNatClampNeg), ndl_le, c_X3_perform_13 l G k rho n T z st f hI i hi hst q hq kd a b c_ d_ e_ Fq b32 hb32 iκ (fit_get (m := 3) rfl (by decide) kI_3 f0) (fit_get (m := 3) rfl (by decide) kI_3 f1) (fit_get (m := 3) rfl (by decide) kI_3 f2)⟩
  · exact ⟨0, (by omega), c_X3_perform_14 l G k rho n T z st f hI i hi hst q hq kd a b c_ d_ e_ Fq b32 hb32 iκ (fit_get (m := 32) rfl (by decide) kI_32 f1)⟩
  · exact ⟨0, (by omega), c_X3_perform_15 l G k rho n T z st f hI i hi hst q hq kd a b c_ d_ e_ Fq b32 hb32 iκ (fit_get (m := 3) rfl (by decide) kI_3 f0) (fit_get (m := 32) rfl (by decide) kI_32 f1)⟩
  · exact ⟨0, (by omega), c_X3_perform_16 l G k rho n T z st f hI i hi hst q hq kd a b c_ d_ e_ Fq b32 hb32 iκ (fit_get (m := 3) rfl (by decide) kI_3 f0)⟩
  · exact ⟨0, (by omega), c_X3_perform_17 l G k rho n T z st f hI i hi hst q hq kd a b c_ d_ e_ Fq b32 hb32 iκ ⟩
