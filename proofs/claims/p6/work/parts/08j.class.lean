set_option maxHeartbeats 4000000 in
set_option maxRecDepth 100000 in
theorem c_X3_perform_0 (l : Launch) (G : mG) (k : Nat → Nat) (rho : tR) (n : Nat) (T z : Nat → Nat) (st : Nat → Bool) (f : mF) (hI : IC G k rho n T z st f) (i : Nat) (hi : i < 3) (hst : st i = true ∧ 0 < n) (q : Nat) (hq : rho q = (4, 0)) (kd a : Int32) (b : Int64) (c_ d_ e_ : Int32) (Fq : f q = some (.inr (0, [.int kd, .int a, .long b, .int c_, .int d_, .int e_]))) (b32 : Int32) (hb32 : b.toInt32 = b32) (hkd : kd.toInt = 0) (h0_ : 0 ≤ a.toInt ∧ a.toInt ≤ 3) : Met l yX3_perform wsX3_perform ({ frames := 5, cells := 3 * (0), slots := 29 * (0), locals := 155 }) (va_Pc [.ref (k (5 + 8 * i)), .ref q] (mW G f)) (va_Qi (fun (r : Int32) (u : mS) => IC G k u.1 n T z st u.2 ∧ frC k rho f u.1 u.2 ∧ (r.toInt ≠ 0 ∨ nul (cpF k i u.2) 24 + (0) = nul (cpF k i f) 24)) (fun (u : mS) t => mW G u.2 t) (mA G)) (3 * (0)) (29 * (0)) (mA G) := by
  refine mMet [.ref (k (5 + 8 * i)), .ref q] (cc := cX3_perform) (maxL := 5) (ret := (some .int)) (by decide) rfl (Nat.le_of_ble_eq_true rfl) ?_
  intro p e s m below meth c ls hx hb hr hml hts hown hlk hnm hC hH hl
  have hl : lv_has ls 5 [(0, .ref (k (5 + 8 * i))), (1, .ref q)] := hl
  have hj := hI.2.2.2.2.1
  have hn24 := hI.2.2.2.2.2.2.1
  have hT3 := hI.2.2.2.2.2.2.2.1
  have hz32 := hI.2.2.2.2.2.2.2.2
  have nIn : (nI n).toInt = (n : Int) := nI_toInt (by omega)
  have hfr : frC k rho f rho f := frC.rf
  have hn0_ := hst.2
  refine lv_aload_n hx hb dX3_perform_0 rfl (lv_at hl 1 rfl) ?_
  refine m_get (ci := 0) (v := .int a) (C := RX0) (T := TX0) (N := 6) hx hb hC hH hts in_X3_perform_X0 hown Fq rfl 1 (by decide) (hts (.fieldLink RX3 110 "LazyState$Act" "a" "I") (by decide +kernel)) rfl dX3_perform_1 ?_
  refine lv_istore_n (lv' := [(2, .int a), (0, .ref (k (5 + 8 * i))), (1, .ref q)]) hx hb dX3_perform_4 rfl hl (by decide) rfl (fun ls hl => ?_)
  refine lv_aload_n hx hb dX3_perform_5 rfl (lv_at hl 2 rfl) ?_
  refine m_get (ci := 0) (v := .long b) (C := RX0) (T := TX0) (N := 6) hx hb hC hH hts in_X3_perform_X0 hown Fq rfl 2 (by decide) (hts (.fieldLink RX3 115 "LazyState$Act" "b" "J") (by decide +kernel)) rfl dX3_perform_6 ?_
  refine lv_l2i (v := b32) hx hb dX3_perform_9 hb32 ?_
  refine lv_istore_n (lv' := [(3, .int b32), (2, .int a), (0, .ref (k (5 + 8 * i))), (1, .ref q)]) hx hb dX3_perform_10 rfl hl (by decide) rfl (fun ls hl => ?_)
  refine lv_aload_n hx hb dX3_perform_11 rfl (lv_at hl 3 rfl) ?_
  refine m_get (ci := 0) (v := .int c_) (C := RX0) (T := TX0) (N := 6) hx hb hC hH hts in_X3_perform_X0 hown Fq rfl 3 (by decide) (hts (.fieldLink RX3 118 "LazyState$Act" "c" "I") (by decide +kernel)) rfl dX3_perform_12 ?_
  refine lv_istore (lv' := [(4, .int c_), (3, .int b32), (2, .int a), (0, .ref (k (5 + 8 * i))), (1, .ref q)]) hx hb dX3_perform_15 hl (by decide) rfl (fun ls hl => ?_)
  refine lv_aload_n hx hb dX3_perform_17 rfl (lv_at hl 4 rfl) ?_
  refine m_get (ci := 0) (v := .int kd) (C := RX0) (T := TX0) (N := 6) hx hb hC hH hts in_X3_perform_X0 hown Fq rfl 0 (by decide) (hts (.fieldLink RX3 121 "LazyState$Act" "kind" "I") (by decide +kernel)) rfl dX3_perform_18 ?_
  refine lv_tableIn (off := 87) (tgt := 108) hx hb dX3_perform_21 (by rw [hkd]; decide) (by rw [hkd]; decide) (by rw [hkd]; rfl) (by decide) ?_
  refine lv_aload_n hx hb dX3_perform_108 rfl (lv_at hl 3 rfl) ?_
  refine lv_iload_n hx hb dX3_perform_109 rfl (lv_at hl 2 rfl) ?_
  refine lv_aload_n hx hb dX3_perform_110 rfl (lv_at hl 4 rfl) ?_
  refine m_get (ci := 0) (v := .long b) (C := RX0) (T := TX0) (N := 6) hx hb hC hH hts in_X3_perform_X0 hown Fq rfl 2 (by decide) (hts (.fieldLink RX3 115 "LazyState$Act" "b" "J") (by decide +kernel)) rfl dX3_perform_111 ?_
  obtain ⟨lb_4, dn_4, gf_4, th_4, ta_4, sr_4, nx_4, F_4, s1_4, s2_4⟩ : okRun k st i (f (k (5 + 8 * i))) := hI.run (i := i) (c := 0) hi (by decide)
  have s3_4 := s2_4 hst.1
  subst s3_4
  refine m_goi hH (va_runV (As := [.int a, .long b]) (rest := []) ⟨hx, hb, hml, hown, hts⟩ (c_X3_setValue l G k rho n T z st f hI i hi hst a b (by omega)) (cwV 2 hts gX3_perform_X3_setValue rfl rfl rfl (by decide +kernel) ⟨Nat.le_of_ble_eq_true rfl, Nat.le_of_ble_eq_true rfl⟩) (m_preV (ci := 3) hC hH F_4 rfl) rfl rfl hl.1 rfl (lv_room (Nat.le_of_ble_eq_true rfl)) dX3_perform_114 ⟨by show _ ≤ 3 * (0); omega, by show _ ≤ 29 * (0); omega⟩) (fun r_1 rho_3 f_2 H locs hw hH => ?_)
  obtain ⟨hu, hI, hfr1, hkc1, hr_1⟩ := hw
  have hI : IC G k rho n T z st f_2 := hI
  have hfr1 : frC k rho f rho f_2 := hfr1
  have hfr := hfr.trans hfr1
  try dsimp only at hr_1
  exact m_iret (v := r_1) hx hb hr hlk hC hH rho ⟨hI, hfr, Or.inr (by rw [cpF_c hkc1]; rfl)⟩ (by omega) (by omega) dX3_perform_117
set_option maxHeartbeats 4000000 in
set_option maxRecDepth 100000 in
theorem c_X3_perform_1 (l : Launch) (G : mG) (k : Nat → Nat) (rho : tR) (n : Nat) (T z : Nat → Nat) (st : Nat → Bool) (f : mF) (hI : IC G k rho n T z st f) (i : Nat) (hi : i < 3) (hst : st i = true ∧ 0 < n) (q : Nat) (hq : rho q = (4, 0)) (kd a : Int32) (b : Int64) (c_ d_ e_ : Int32) (Fq : f q = some (.inr (0, [.int kd, .int a, .long b, .int c_, .int d_, .int e_]))) (b32 : Int32) (hb32 : b.toInt32 = b32) (hkd : kd.toInt = 1) (h0_ : 0 ≤ a.toInt ∧ a.toInt ≤ 3) (h1_ : 0 ≤ b.toInt ∧ b.toInt ≤ 3) (h2_ : 0 ≤ c_.toInt ∧ c_.toInt ≤ 3) : Met l yX3_perform wsX3_perform ({ frames := 5, cells := 3 * (0), slots := 29 * (0), locals := 155 }) (va_Pc [.ref (k (5 + 8 * i)), .ref q] (mW G f)) (va_Qi (fun (r : Int32) (u : mS) => IC G k u.1 n T z st u.2 ∧ frC k rho f u.1 u.2 ∧ (r.toInt ≠ 0 ∨ nul (cpF k i u.2) 24 + (0) = nul (cpF k i f) 24)) (fun (u : mS) t => mW G u.2 t) (mA G)) (3 * (0)) (29 * (0)) (mA G) := by
  refine mMet [.ref (k (5 + 8 * i)), .ref q] (cc := cX3_perform) (maxL := 5) (ret := (some .int)) (by decide) rfl (Nat.le_of_ble_eq_true rfl) ?_
  intro p e s m below meth c ls hx hb hr hml hts hown hlk hnm hC hH hl
  have hl : lv_has ls 5 [(0, .ref (k (5 + 8 * i))), (1, .ref q)] := hl
  have hj := hI.2.2.2.2.1
  have hn24 := hI.2.2.2.2.2.2.1
  have hT3 := hI.2.2.2.2.2.2.2.1
  have hz32 := hI.2.2.2.2.2.2.2.2
  have nIn : (nI n).toInt = (n : Int) := nI_toInt (by omega)
  have hfr : frC k rho f rho f := frC.rf
  have hn0_ := hst.2
  refine lv_aload_n hx hb dX3_perform_0 rfl (lv_at hl 1 rfl) ?_
  refine m_get (ci := 0) (v := .int a) (C := RX0) (T := TX0) (N := 6) hx hb hC hH hts in_X3_perform_X0 hown Fq rfl 1 (by decide) (hts (.fieldLink RX3 110 "LazyState$Act" "a" "I") (by decide +kernel)) rfl dX3_perform_1 ?_
  refine lv_istore_n (lv' := [(2, .int a), (0, .ref (k (5 + 8 * i))), (1, .ref q)]) hx hb dX3_perform_4 rfl hl (by decide) rfl (fun ls hl => ?_)
  refine lv_aload_n hx hb dX3_perform_5 rfl (lv_at hl 2 rfl) ?_
  refine m_get (ci := 0) (v := .long b) (C := RX0) (T := TX0) (N := 6) hx hb hC hH hts in_X3_perform_X0 hown Fq rfl 2 (by decide) (hts (.fieldLink RX3 115 "LazyState$Act" "b" "J") (by decide +kernel)) rfl dX3_perform_6 ?_
  refine lv_l2i (v := b32) hx hb dX3_perform_9 hb32 ?_
  have ib32 : b32.toInt = b.toInt := ic_l2i hb32.symm rfl (by omega) (by omega)
  refine lv_istore_n (lv' := [(3, .int b32), (2, .int a), (0, .ref (k (5 + 8 * i))), (1, .ref q)]) hx hb dX3_perform_10 rfl hl (by decide) rfl (fun ls hl => ?_)
  refine lv_aload_n hx hb dX3_perform_11 rfl (lv_at hl 3 rfl) ?_
  refine m_get (ci := 0) (v := .int c_) (C := RX0) (T := TX0) (N := 6) hx hb hC hH hts in_X3_perform_X0 hown Fq rfl 3 (by decide) (hts (.fieldLink RX3 118 "LazyState$Act" "c" "I") (by decide +kernel)) rfl dX3_perform_12 ?_
  refine lv_istore (lv' := [(4, .int c_), (3, .int b32), (2, .int a), (0, .ref (k (5 + 8 * i))), (1, .ref q)]) hx hb dX3_perform_15 hl (by decide) rfl (fun ls hl => ?_)
  refine lv_aload_n hx hb dX3_perform_17 rfl (lv_at hl 4 rfl) ?_
  refine m_get (ci := 0) (v := .int kd) (C := RX0) (T := TX0) (N := 6) hx hb hC hH hts in_X3_perform_X0 hown Fq rfl 0 (by decide) (hts (.fieldLink RX3 121 "LazyState$Act" "kind" "I") (by decide +kernel)) rfl dX3_perform_18 ?_
  refine lv_tableIn (off := 97) (tgt := 118) hx hb dX3_perform_21 (by rw [hkd]; decide) (by rw [hkd]; decide) (by rw [hkd]; rfl) (by decide) ?_
  refine lv_aload_n hx hb dX3_perform_118 rfl (lv_at hl 3 rfl) ?_
  refine lv_iload_n hx hb dX3_perform_119 rfl (lv_at hl 2 rfl) ?_
  refine lv_aload_n hx hb dX3_perform_120 rfl (lv_at hl 3 rfl) ?_
  obtain ⟨lb_1, dn_1, gf_1, th_1, ta_1, sr_1, nx_1, F_1, s1_1, s2_1⟩ : okRun k st i (f (k (5 + 8 * i))) := hI.run (i := i) (c := 0) hi (by decide)
  have s3_1 := s2_1 hst.1
  subst s3_1
  refine m_get (ci := 3) (v := .ref (k (5 + 8 * i + 7))) (C := RX3) (T := TX3) (N := 11) hx hb hC hH hts in_X3_perform_X3 hown F_1 rfl 9 (by decide) (hts (.fieldLink RX3 32 "LazyState$Run" "values" "[J") (by decide +kernel)) rfl dX3_perform_121 ?_
  refine lv_iload_n hx hb dX3_perform_124 rfl (lv_at hl 1 rfl) ?_
  obtain ⟨g_2, hg_2, hp_2⟩ : okJ G 4 (fun _ => True) (f (k (5 + 8 * i + 7))) := hI.run (i := i) (c := 7) hi (by decide)
  refine m_lald hx hb hC hH hg_2 (vp_in_iff.mpr ⟨by omega, by omega⟩) dX3_perform_125 ?_
  refine lv_topl (fun y_3 ey_3 => ?_)
  refine lv_aload_n hx hb dX3_perform_126 rfl (lv_at hl 3 rfl) ?_
  refine m_get (ci := 3) (v := .ref (k (5 + 8 * i + 7))) (C := RX3) (T := TX3) (N := 11) hx hb hC hH hts in_X3_perform_X3 hown F_1 rfl 9 (by decide) (hts (.fieldLink RX3 32 "LazyState$Run" "values" "[J") (by decide +kernel)) rfl dX3_perform_127 ?_
  refine lv_iload hx hb dX3_perform_130 (lv_at hl 0 rfl) ?_
  refine m_lald hx hb hC hH hg_2 (vp_in_iff.mpr ⟨by omega, by omega⟩) dX3_perform_132 ?_
  refine lv_topl (fun y_4 ey_4 => ?_)
  refine lv_ladd hx hb dX3_perform_133 ?_
  refine lv_topl (fun y_5 ey_5 => ?_)
  refine m_goi hH (va_runV (As := [.int a, .long y_5]) (rest := []) ⟨hx, hb, hml, hown, hts⟩ (c_X3_setValue l G k rho n T z st f hI i hi hst a y_5 (by omega)) (cwV 2 hts gX3_perform_X3_setValue rfl rfl rfl (by decide +kernel) ⟨Nat.le_of_ble_eq_true rfl, Nat.le_of_ble_eq_true rfl⟩) (m_preV (ci := 3) hC hH F_1 rfl) rfl rfl hl.1 rfl (lv_room (Nat.le_of_ble_eq_true rfl)) dX3_perform_134 ⟨by show _ ≤ 3 * (0); omega, by show _ ≤ 29 * (0); omega⟩) (fun r_6 rho_8 f_7 H locs hw hH => ?_)
  obtain ⟨hu, hI, hfr1, hkc1, hr_6⟩ := hw
  have hI : IC G k rho n T z st f_7 := hI
  have hfr1 : frC k rho f rho f_7 := hfr1
  have hfr := hfr.trans hfr1
  try dsimp only at hr_6
  exact m_iret (v := r_6) hx hb hr hlk hC hH rho ⟨hI, hfr, Or.inr (by rw [cpF_c hkc1]; rfl)⟩ (by omega) (by omega) dX3_perform_137
set_option maxHeartbeats 4000000 in
set_option maxRecDepth 100000 in
theorem c_X3_perform_2 (l : Launch) (G : mG) (k : Nat → Nat) (rho : tR) (n : Nat) (T z : Nat → Nat) (st : Nat → Bool) (f : mF) (hI : IC G k rho n T z st f) (i : Nat) (hi : i < 3) (hst : st i = true ∧ 0 < n) (q : Nat) (hq : rho q = (4, 0)) (kd a : Int32) (b : Int64) (c_ d_ e_ : Int32) (Fq : f q = some (.inr (0, [.int kd, .int a, .long b, .int c_, .int d_, .int e_]))) (b32 : Int32) (hb32 : b.toInt32 = b32) (hkd : kd.toInt = 2) (h0_ : 0 ≤ a.toInt ∧ a.toInt ≤ 3) (h1_ : 0 ≤ b.toInt ∧ b.toInt ≤ 3) (h2_ : 0 ≤ c_.toInt ∧ c_.toInt ≤ 3) : Met l yX3_perform wsX3_perform ({ frames := 5, cells := 3 * (0), slots := 29 * (0), locals := 155 }) (va_Pc [.ref (k (5 + 8 * i)), .ref q] (mW G f)) (va_Qi (fun (r : Int32) (u : mS) => IC G k u.1 n T z st u.2 ∧ frC k rho f u.1 u.2 ∧ (r.toInt ≠ 0 ∨ nul (cpF k i u.2) 24 + (0) = nul (cpF k i f) 24)) (fun (u : mS) t => mW G u.2 t) (mA G)) (3 * (0)) (29 * (0)) (mA G) := by
  refine mMet [.ref (k (5 + 8 * i)), .ref q] (cc := cX3_perform) (maxL := 5) (ret := (some .int)) (by decide) rfl (Nat.le_of_ble_eq_true rfl) ?_
  intro p e s m below meth c ls hx hb hr hml hts hown hlk hnm hC hH hl
  have hl : lv_has ls 5 [(0, .ref (k (5 + 8 * i))), (1, .ref q)] := hl
  have hj := hI.2.2.2.2.1
  have hn24 := hI.2.2.2.2.2.2.1
  have hT3 := hI.2.2.2.2.2.2.2.1
  have hz32 := hI.2.2.2.2.2.2.2.2
  have nIn : (nI n).toInt = (n : Int) := nI_toInt (by omega)
  have hfr : frC k rho f rho f := frC.rf
  have hn0_ := hst.2
  refine lv_aload_n hx hb dX3_perform_0 rfl (lv_at hl 1 rfl) ?_
  refine m_get (ci := 0) (v := .int a) (C := RX0) (T := TX0) (N := 6) hx hb hC hH hts in_X3_perform_X0 hown Fq rfl 1 (by decide) (hts (.fieldLink RX3 110 "LazyState$Act" "a" "I") (by decide +kernel)) rfl dX3_perform_1 ?_
  refine lv_istore_n (lv' := [(2, .int a), (0, .ref (k (5 + 8 * i))), (1, .ref q)]) hx hb dX3_perform_4 rfl hl (by decide) rfl (fun ls hl => ?_)
  refine lv_aload_n hx hb dX3_perform_5 rfl (lv_at hl 2 rfl) ?_
  refine m_get (ci := 0) (v := .long b) (C := RX0) (T := TX0) (N := 6) hx hb hC hH hts in_X3_perform_X0 hown Fq rfl 2 (by decide) (hts (.fieldLink RX3 115 "LazyState$Act" "b" "J") (by decide +kernel)) rfl dX3_perform_6 ?_
  refine lv_l2i (v := b32) hx hb dX3_perform_9 hb32 ?_
  have ib32 : b32.toInt = b.toInt := ic_l2i hb32.symm rfl (by omega) (by omega)
  refine lv_istore_n (lv' := [(3, .int b32), (2, .int a), (0, .ref (k (5 + 8 * i))), (1, .ref q)]) hx hb dX3_perform_10 rfl hl (by decide) rfl (fun ls hl => ?_)
  refine lv_aload_n hx hb dX3_perform_11 rfl (lv_at hl 3 rfl) ?_
  refine m_get (ci := 0) (v := .int c_) (C := RX0) (T := TX0) (N := 6) hx hb hC hH hts in_X3_perform_X0 hown Fq rfl 3 (by decide) (hts (.fieldLink RX3 118 "LazyState$Act" "c" "I") (by decide +kernel)) rfl dX3_perform_12 ?_
  refine lv_istore (lv' := [(4, .int c_), (3, .int b32), (2, .int a), (0, .ref (k (5 + 8 * i))), (1, .ref q)]) hx hb dX3_perform_15 hl (by decide) rfl (fun ls hl => ?_)
  refine lv_aload_n hx hb dX3_perform_17 rfl (lv_at hl 4 rfl) ?_
  refine m_get (ci := 0) (v := .int kd) (C := RX0) (T := TX0) (N := 6) hx hb hC hH hts in_X3_perform_X0 hown Fq rfl 0 (by decide) (hts (.fieldLink RX3 121 "LazyState$Act" "kind" "I") (by decide +kernel)) rfl dX3_perform_18 ?_
  refine lv_tableIn (off := 117) (tgt := 138) hx hb dX3_perform_21 (by rw [hkd]; decide) (by rw [hkd]; decide) (by rw [hkd]; rfl) (by decide) ?_
  refine lv_aload_n hx hb dX3_perform_138 rfl (lv_at hl 3 rfl) ?_
  refine lv_iload_n hx hb dX3_perform_139 rfl (lv_at hl 2 rfl) ?_
  refine lv_aload_n hx hb dX3_perform_140 rfl (lv_at hl 3 rfl) ?_
  obtain ⟨lb_1, dn_1, gf_1, th_1, ta_1, sr_1, nx_1, F_1, s1_1, s2_1⟩ : okRun k st i (f (k (5 + 8 * i))) := hI.run (i := i) (c := 0) hi (by decide)
  have s3_1 := s2_1 hst.1
  subst s3_1
  refine m_get (ci := 3) (v := .ref (k (5 + 8 * i + 7))) (C := RX3) (T := TX3) (N := 11) hx hb hC hH hts in_X3_perform_X3 hown F_1 rfl 9 (by decide) (hts (.fieldLink RX3 32 "LazyState$Run" "values" "[J") (by decide +kernel)) rfl dX3_perform_141 ?_
  refine lv_iload_n hx hb dX3_perform_144 rfl (lv_at hl 1 rfl) ?_
  obtain ⟨g_2, hg_2, hp_2⟩ : okJ G 4 (fun _ => True) (f (k (5 + 8 * i + 7))) := hI.run (i := i) (c := 7) hi (by decide)
  refine m_lald hx hb hC hH hg_2 (vp_in_iff.mpr ⟨by omega, by omega⟩) dX3_perform_145 ?_
  refine lv_topl (fun y_3 ey_3 => ?_)
  refine lv_aload_n hx hb dX3_perform_146 rfl (lv_at hl 3 rfl) ?_
  refine m_get (ci := 3) (v := .ref (k (5 + 8 * i + 7))) (C := RX3) (T := TX3) (N := 11) hx hb hC hH hts in_X3_perform_X3 hown F_1 rfl 9 (by decide) (hts (.fieldLink RX3 32 "LazyState$Run" "values" "[J") (by decide +kernel)) rfl dX3_perform_147 ?_
  refine lv_iload hx hb dX3_perform_150 (lv_at hl 0 rfl) ?_
  refine m_lald hx hb hC hH hg_2 (vp_in_iff.mpr ⟨by omega, by omega⟩) dX3_perform_152 ?_
  refine lv_topl (fun y_4 ey_4 => ?_)
  refine lv_lsub hx hb dX3_perform_153 ?_
  refine lv_topl (fun y_5 ey_5 => ?_)
  refine m_goi hH (va_runV (As := [.int a, .long y_5]) (rest := []) ⟨hx, hb, hml, hown, hts⟩ (c_X3_setValue l G k rho n T z st f hI i hi hst a y_5 (by omega)) (cwV 2 hts gX3_perform_X3_setValue rfl rfl rfl (by decide +kernel) ⟨Nat.le_of_ble_eq_true rfl, Nat.le_of_ble_eq_true rfl⟩) (m_preV (ci := 3) hC hH F_1 rfl) rfl rfl hl.1 rfl (lv_room (Nat.le_of_ble_eq_true rfl)) dX3_perform_154 ⟨by show _ ≤ 3 * (0); omega, by show _ ≤ 29 * (0); omega⟩) (fun r_6 rho_8 f_7 H locs hw hH => ?_)
  obtain ⟨hu, hI, hfr1, hkc1, hr_6⟩ := hw
  have hI : IC G k rho n T z st f_7 := hI
  have hfr1 : frC k rho f rho f_7 := hfr1
  have hfr := hfr.trans hfr1
  try dsimp only at hr_6
  exact m_iret (v := r_6) hx hb hr hlk hC hH rho ⟨hI, hfr, Or.inr (by rw [cpF_c hkc1]; rfl)⟩ (by omega) (by omega) dX3_perform_157
set_option maxHeartbeats 4000000 in
set_option maxRecDepth 100000 in
theorem c_X3_perform_3 (l : Launch) (G : mG) (k : Nat → Nat) (rho : tR) (n : Nat) (T z : Nat → Nat) (st : Nat → Bool) (f : mF) (hI : IC G k rho n T z st f) (i : Nat) (hi : i < 3) (hst : st i = true ∧ 0 < n) (q : Nat) (hq : rho q = (4, 0)) (kd a : Int32) (b : Int64) (c_ d_ e_ : Int32) (Fq : f q = some (.inr (0, [.int kd, .int a, .long b, .int c_, .int d_, .int e_]))) (b32 : Int32) (hb32 : b.toInt32 = b32) (hkd : kd.toInt = 3) (h0_ : 0 ≤ a.toInt ∧ a.toInt ≤ 3) (h1_ : 0 ≤ b.toInt ∧ b.toInt ≤ 3) (h2_ : 0 ≤ c_.toInt ∧ c_.toInt ≤ 3) : Met l yX3_perform wsX3_perform ({ frames := 5, cells := 3 * (0), slots := 29 * (0), locals := 155 }) (va_Pc [.ref (k (5 + 8 * i)), .ref q] (mW G f)) (va_Qi (fun (r : Int32) (u : mS) => IC G k u.1 n T z st u.2 ∧ frC k rho f u.1 u.2 ∧ (r.toInt ≠ 0 ∨ nul (cpF k i u.2) 24 + (0) = nul (cpF k i f) 24)) (fun (u : mS) t => mW G u.2 t) (mA G)) (3 * (0)) (29 * (0)) (mA G) := by
  refine mMet [.ref (k (5 + 8 * i)), .ref q] (cc := cX3_perform) (maxL := 5) (ret := (some .int)) (by decide) rfl (Nat.le_of_ble_eq_true rfl) ?_
  intro p e s m below meth c ls hx hb hr hml hts hown hlk hnm hC hH hl
  have hl : lv_has ls 5 [(0, .ref (k (5 + 8 * i))), (1, .ref q)] := hl
  have hj := hI.2.2.2.2.1
  have hn24 := hI.2.2.2.2.2.2.1
  have hT3 := hI.2.2.2.2.2.2.2.1
  have hz32 := hI.2.2.2.2.2.2.2.2
  have nIn : (nI n).toInt = (n : Int) := nI_toInt (by omega)
  have hfr : frC k rho f rho f := frC.rf
  have hn0_ := hst.2
  refine lv_aload_n hx hb dX3_perform_0 rfl (lv_at hl 1 rfl) ?_
  refine m_get (ci := 0) (v := .int a) (C := RX0) (T := TX0) (N := 6) hx hb hC hH hts in_X3_perform_X0 hown Fq rfl 1 (by decide) (hts (.fieldLink RX3 110 "LazyState$Act" "a" "I") (by decide +kernel)) rfl dX3_perform_1 ?_
  refine lv_istore_n (lv' := [(2, .int a), (0, .ref (k (5 + 8 * i))), (1, .ref q)]) hx hb dX3_perform_4 rfl hl (by decide) rfl (fun ls hl => ?_)
  refine lv_aload_n hx hb dX3_perform_5 rfl (lv_at hl 2 rfl) ?_
  refine m_get (ci := 0) (v := .long b) (C := RX0) (T := TX0) (N := 6) hx hb hC hH hts in_X3_perform_X0 hown Fq rfl 2 (by decide) (hts (.fieldLink RX3 115 "LazyState$Act" "b" "J") (by decide +kernel)) rfl dX3_perform_6 ?_
  refine lv_l2i (v := b32) hx hb dX3_perform_9 hb32 ?_
  have ib32 : b32.toInt = b.toInt := ic_l2i hb32.symm rfl (by omega) (by omega)
  refine lv_istore_n (lv' := [(3, .int b32), (2, .int a), (0, .ref (k (5 + 8 * i))), (1, .ref q)]) hx hb dX3_perform_10 rfl hl (by decide) rfl (fun ls hl => ?_)
  refine lv_aload_n hx hb dX3_perform_11 rfl (lv_at hl 3 rfl) ?_
  refine m_get (ci := 0) (v := .int c_) (C := RX0) (T := TX0) (N := 6) hx hb hC hH hts in_X3_perform_X0 hown Fq rfl 3 (by decide) (hts (.fieldLink RX3 118 "LazyState$Act" "c" "I") (by decide +kernel)) rfl dX3_perform_12 ?_
  refine lv_istore (lv' := [(4, .int c_), (3, .int b32), (2, .int a), (0, .ref (k (5 + 8 * i))), (1, .ref q)]) hx hb dX3_perform_15 hl (by decide) rfl (fun ls hl => ?_)
  refine lv_aload_n hx hb dX3_perform_17 rfl (lv_at hl 4 rfl) ?_
  refine m_get (ci := 0) (v := .int kd) (C := RX0) (T := TX0) (N := 6) hx hb hC hH hts in_X3_perform_X0 hown Fq rfl 0 (by decide) (hts (.fieldLink RX3 121 "LazyState$Act" "kind" "I") (by decide +kernel)) rfl dX3_perform_18 ?_
  refine lv_tableIn (off := 137) (tgt := 158) hx hb dX3_perform_21 (by rw [hkd]; decide) (by rw [hkd]; decide) (by rw [hkd]; rfl) (by decide) ?_
  refine lv_aload_n hx hb dX3_perform_158 rfl (lv_at hl 3 rfl) ?_
  obtain ⟨lb_1, dn_1, gf_1, th_1, ta_1, sr_1, nx_1, F_1, s1_1, s2_1⟩ : okRun k st i (f (k (5 + 8 * i))) := hI.run (i := i) (c := 0) hi (by decide)
  have s3_1 := s2_1 hst.1
  subst s3_1
  refine m_get (ci := 3) (v := .ref (k (5 + 8 * i + 7))) (C := RX3) (T := TX3) (N := 11) hx hb hC hH hts in_X3_perform_X3 hown F_1 rfl 9 (by decide) (hts (.fieldLink RX3 32 "LazyState$Run" "values" "[J") (by decide +kernel)) rfl dX3_perform_159 ?_
  refine lv_iload hx hb dX3_perform_162 (lv_at hl 0 rfl) ?_
  obtain ⟨g_2, hg_2, hp_2⟩ : okJ G 4 (fun _ => True) (f (k (5 + 8 * i + 7))) := hI.run (i := i) (c := 7) hi (by decide)
  refine m_lald hx hb hC hH hg_2 (vp_in_iff.mpr ⟨by omega, by omega⟩) dX3_perform_164 ?_
  refine lv_topl (fun y_3 ey_3 => ?_)
  refine lv_lconst (v := 0) hx hb dX3_perform_165 (by decide) ?_
  refine W.lcmp hx hb dX3_perform_166 ?_
  refine lv_if_ne (tgt := 174) hx hb dX3_perform_167 (by decide) (fun c_4 => ?_) (fun c_4 => ?_)
  · skip
    have ic_4 : (y_3.toInt : Int) ≠ 0 := lc_ne rfl kJ_0 (fun q_ => c_4 ((lg_cmp_eq _ _).mpr q_))
    refine lv_aload_n hx hb dX3_perform_174 rfl (lv_at hl 3 rfl) ?_
    refine lv_iload_n hx hb dX3_perform_175 rfl (lv_at hl 2 rfl) ?_
    refine lv_aload_n hx hb dX3_perform_176 rfl (lv_at hl 3 rfl) ?_
    refine m_get (ci := 3) (v := .ref (k (5 + 8 * i + 7))) (C := RX3) (T := TX3) (N := 11) hx hb hC hH hts in_X3_perform_X3 hown F_1 rfl 9 (by decide) (hts (.fieldLink RX3 32 "LazyState$Run" "values" "[J") (by decide +kernel)) rfl dX3_perform_177 ?_
    refine lv_iload_n hx hb dX3_perform_180 rfl (lv_at hl 1 rfl) ?_
    refine m_lald hx hb hC hH hg_2 (vp_in_iff.mpr ⟨by omega, by omega⟩) dX3_perform_181 ?_
    refine lv_topl (fun y_5 ey_5 => ?_)
    refine lv_aload_n hx hb dX3_perform_182 rfl (lv_at hl 3 rfl) ?_
    refine m_get (ci := 3) (v := .ref (k (5 + 8 * i + 7))) (C := RX3) (T := TX3) (N := 11) hx hb hC hH hts in_X3_perform_X3 hown F_1 rfl 9 (by decide) (hts (.fieldLink RX3 32 "LazyState$Run" "values" "[J") (by decide +kernel)) rfl dX3_perform_183 ?_
    refine lv_iload hx hb dX3_perform_186 (lv_at hl 0 rfl) ?_
    refine m_lald hx hb hC hH hg_2 (vp_in_iff.mpr ⟨by omega, by omega⟩) dX3_perform_188 ?_
    refine lv_topl (fun y_6 ey_6 => ?_)
    refine lv_ldiv hx hb dX3_perform_189 (fun q => by have hq : y_6 = y_3 := (by rw [ey_6, ey_3]); rw [hq] at q; have q2 : y_3.toInt = 0 := (by rw [q]; rfl); omega) ?_
    refine lv_topl (fun y_7 ey_7 => ?_)
    refine m_goi hH (va_runV (As := [.int a, .long y_7]) (rest := []) ⟨hx, hb, hml, hown, hts⟩ (c_X3_setValue l G k rho n T z st f hI i hi hst a y_7 (by omega)) (cwV 2 hts gX3_perform_X3_setValue rfl rfl rfl (by decide +kernel) ⟨Nat.le_of_ble_eq_true rfl, Nat.le_of_ble_eq_true rfl⟩) (m_preV (ci := 3) hC hH F_1 rfl) rfl rfl hl.1 rfl (lv_room (Nat.le_of_ble_eq_true rfl)) dX3_perform_190 ⟨by show _ ≤ 3 * (0); omega, by show _ ≤ 29 * (0); omega⟩) (fun r_8 rho_10 f_9 H locs hw hH => ?_)
    obtain ⟨hu, hI, hfr1, hkc1, hr_8⟩ := hw
    have hI : IC G k rho n T z st f_9 := hI
    have hfr1 : frC k rho f rho f_9 := hfr1
    have hfr := hfr.trans hfr1
    try dsimp only at hr_8
    exact m_iret (v := r_8) hx hb hr hlk hC hH rho ⟨hI, hfr, Or.inr (by rw [cpF_c hkc1]; rfl)⟩ (by omega) (by omega) dX3_perform_193
  · skip
    have ic_4 : (y_3.toInt : Int) = 0 := lc_eq rfl kJ_0 ((lg_cmp_eq _ _).mp c_4)
    refine lv_iconst (v := 5) hx hb dX3_perform_170 (by decide) ?_
    refine lv_goto (tgt := 193) hx hb dX3_perform_171 (by decide) ?_
    exact m_iret (v := 5) hx hb hr hlk hC hH rho ⟨hI, hfr, Or.inl (by have := kI_5; omega)⟩ (by omega) (by omega) dX3_perform_193
set_option maxHeartbeats 4000000 in
set_option maxRecDepth 100000 in
theorem c_X3_perform_4 (l : Launch) (G : mG) (k : Nat → Nat) (rho : tR) (n : Nat) (T z : Nat → Nat) (st : Nat → Bool) (f : mF) (hI : IC G k rho n T z st f) (i : Nat) (hi : i < 3) (hst : st i = true ∧ 0 < n) (q : Nat) (hq : rho q = (4, 0)) (kd a : Int32) (b : Int64) (c_ d_ e_ : Int32) (Fq : f q = some (.inr (0, [.int kd, .int a, .long b, .int c_, .int d_, .int e_]))) (b32 : Int32) (hb32 : b.toInt32 = b32) (hkd : kd.toInt = 4) (h0_ : 0 ≤ a.toInt ∧ a.toInt ≤ 3) (h1_ : 0 ≤ b.toInt ∧ b.toInt ≤ 3) (h2_ : 0 ≤ c_.toInt ∧ c_.toInt ≤ 7) : Met l yX3_perform wsX3_perform ({ frames := 5, cells := 3 * (ndh k i f b32.toNatClampNeg), slots := 29 * (ndh k i f b32.toNatClampNeg), locals := 155 }) (va_Pc [.ref (k (5 + 8 * i)), .ref q] (mW G f)) (va_Qi (fun (r : Int32) (u : mS) => IC G k u.1 n T z st u.2 ∧ frC k rho f u.1 u.2 ∧ (r.toInt ≠ 0 ∨ nul (cpF k i u.2) 24 + (ndh k i f b32.toNatClampNeg) = nul (cpF k i f) 24)) (fun (u : mS) t => mW G u.2 t) (mA G)) (3 * (ndh k i f b32.toNatClampNeg)) (29 * (ndh k i f b32.toNatClampNeg)) (mA G) := by
  refine mMet [.ref (k (5 + 8 * i)), .ref q] (cc := cX3_perform) (maxL := 5) (ret := (some .int)) (by decide) rfl (Nat.le_of_ble_eq_true rfl) ?_
  intro p e s m below meth c ls hx hb hr hml hts hown hlk hnm hC hH hl
  have hl : lv_has ls 5 [(0, .ref (k (5 + 8 * i))), (1, .ref q)] := hl
  have hj := hI.2.2.2.2.1
  have hn24 := hI.2.2.2.2.2.2.1
  have hT3 := hI.2.2.2.2.2.2.2.1
  have hz32 := hI.2.2.2.2.2.2.2.2
  have nIn : (nI n).toInt = (n : Int) := nI_toInt (by omega)
  have hfr : frC k rho f rho f := frC.rf
  have hn0_ := hst.2
  refine lv_aload_n hx hb dX3_perform_0 rfl (lv_at hl 1 rfl) ?_
  refine m_get (ci := 0) (v := .int a) (C := RX0) (T := TX0) (N := 6) hx hb hC hH hts in_X3_perform_X0 hown Fq rfl 1 (by decide) (hts (.fieldLink RX3 110 "LazyState$Act" "a" "I") (by decide +kernel)) rfl dX3_perform_1 ?_
  refine lv_istore_n (lv' := [(2, .int a), (0, .ref (k (5 + 8 * i))), (1, .ref q)]) hx hb dX3_perform_4 rfl hl (by decide) rfl (fun ls hl => ?_)
  refine lv_aload_n hx hb dX3_perform_5 rfl (lv_at hl 2 rfl) ?_
  refine m_get (ci := 0) (v := .long b) (C := RX0) (T := TX0) (N := 6) hx hb hC hH hts in_X3_perform_X0 hown Fq rfl 2 (by decide) (hts (.fieldLink RX3 115 "LazyState$Act" "b" "J") (by decide +kernel)) rfl dX3_perform_6 ?_
  refine lv_l2i (v := b32) hx hb dX3_perform_9 hb32 ?_
  have ib32 : b32.toInt = b.toInt := ic_l2i hb32.symm rfl (by omega) (by omega)
  refine lv_istore_n (lv' := [(3, .int b32), (2, .int a), (0, .ref (k (5 + 8 * i))), (1, .ref q)]) hx hb dX3_perform_10 rfl hl (by decide) rfl (fun ls hl => ?_)
  refine lv_aload_n hx hb dX3_perform_11 rfl (lv_at hl 3 rfl) ?_
  refine m_get (ci := 0) (v := .int c_) (C := RX0) (T := TX0) (N := 6) hx hb hC hH hts in_X3_perform_X0 hown Fq rfl 3 (by decide) (hts (.fieldLink RX3 118 "LazyState$Act" "c" "I") (by decide +kernel)) rfl dX3_perform_12 ?_
  refine lv_istore (lv' := [(4, .int c_), (3, .int b32), (2, .int a), (0, .ref (k (5 + 8 * i))), (1, .ref q)]) hx hb dX3_perform_15 hl (by decide) rfl (fun ls hl => ?_)
  refine lv_aload_n hx hb dX3_perform_17 rfl (lv_at hl 4 rfl) ?_
  refine m_get (ci := 0) (v := .int kd) (C := RX0) (T := TX0) (N := 6) hx hb hC hH hts in_X3_perform_X0 hown Fq rfl 0 (by decide) (hts (.fieldLink RX3 121 "LazyState$Act" "kind" "I") (by decide +kernel)) rfl dX3_perform_18 ?_
  refine lv_tableIn (off := 173) (tgt := 194) hx hb dX3_perform_21 (by rw [hkd]; decide) (by rw [hkd]; decide) (by rw [hkd]; rfl) (by decide) ?_
  refine lv_aload_n hx hb dX3_perform_194 rfl (lv_at hl 3 rfl) ?_
  refine lv_iload_n hx hb dX3_perform_195 rfl (lv_at hl 2 rfl) ?_
  refine lv_iload_n hx hb dX3_perform_196 rfl (lv_at hl 1 rfl) ?_
  refine lv_iload hx hb dX3_perform_197 (lv_at hl 0 rfl) ?_
  obtain ⟨lb_4, dn_4, gf_4, th_4, ta_4, sr_4, nx_4, F_4, s1_4, s2_4⟩ : okRun k st i (f (k (5 + 8 * i))) := hI.run (i := i) (c := 0) hi (by decide)
  have s3_4 := s2_4 hst.1
  subst s3_4
  refine m_goi hH (va_runV (As := [.int a, .int b32, .int c_]) (rest := []) ⟨hx, hb, hml, hown, hts⟩ (c_X3_get l G k rho n T z st f hI i hi hst a b32 c_ (by omega) (by omega)) (cwV 3 hts gX3_perform_X3_get rfl rfl rfl (by decide +kernel) ⟨Nat.le_of_ble_eq_true rfl, Nat.le_of_ble_eq_true rfl⟩) (m_preV (ci := 3) hC hH F_4 rfl) rfl rfl hl.1 rfl (lv_room (Nat.le_of_ble_eq_true rfl)) dX3_perform_199 ⟨by show _ ≤ 3 * (ndh k i f b32.toNatClampNeg); omega, by show _ ≤ 29 * (ndh k i f b32.toNatClampNeg); omega⟩) (fun r_1 rho_3 f_2 H locs hw hH => ?_)
  obtain ⟨hI, hfr1, hpt_⟩ := hw
  have hI : IC G k rho_3 n T z st f_2 := hI
  have hfr1 : frC k rho f rho_3 f_2 := hfr1
  have hfr := hfr.trans hfr1
  have rr_5 := (hfr1 _ _ Fq).2.1.trans hq
  have F_6 := (hfr1 _ _ Fq).2.2 (fun j_ hj_ => hI.nk hj_ (by rw [rr_5]; simp)) (Or.inr (by rw [hq]))
  have hpt_ : nul (cpF k i f_2) 24 + ndh k i f b32.toNatClampNeg = nul (cpF k i f) 24 := hpt_
  exact m_iret (v := r_1) hx hb hr hlk hC hH rho_3 ⟨hI, hfr, Or.inr hpt_⟩ (by omega) (by omega) dX3_perform_202
set_option maxHeartbeats 4000000 in
set_option maxRecDepth 100000 in
theorem c_X3_perform_5 (l : Launch) (G : mG) (k : Nat → Nat) (rho : tR) (n : Nat) (T z : Nat → Nat) (st : Nat → Bool) (f : mF) (hI : IC G k rho n T z st f) (i : Nat) (hi : i < 3) (hst : st i = true ∧ 0 < n) (q : Nat) (hq : rho q = (4, 0)) (kd a : Int32) (b : Int64) (c_ d_ e_ : Int32) (Fq : f q = some (.inr (0, [.int kd, .int a, .long b, .int c_, .int d_, .int e_]))) (b32 : Int32) (hb32 : b.toInt32 = b32) (hkd : kd.toInt = 5) (h0_ : 0 ≤ a.toInt ∧ a.toInt ≤ 3) (h1_ : 0 ≤ b.toInt ∧ b.toInt ≤ 7) (h2_ : 0 ≤ c_.toInt ∧ c_.toInt ≤ 3) : Met l yX3_perform wsX3_perform ({ frames := 5, cells := 3 * (ndh k i f a.toNatClampNeg), slots := 29 * (ndh k i f a.toNatClampNeg), locals := 155 }) (va_Pc [.ref (k (5 + 8 * i)), .ref q] (mW G f)) (va_Qi (fun (r : Int32) (u : mS) => IC G k u.1 n T z st u.2 ∧ frC k rho f u.1 u.2 ∧ (r.toInt ≠ 0 ∨ nul (cpF k i u.2) 24 + (ndh k i f a.toNatClampNeg) = nul (cpF k i f) 24)) (fun (u : mS) t => mW G u.2 t) (mA G)) (3 * (ndh k i f a.toNatClampNeg)) (29 * (ndh k i f a.toNatClampNeg)) (mA G) := by
  refine mMet [.ref (k (5 + 8 * i)), .ref q] (cc := cX3_perform) (maxL := 5) (ret := (some .int)) (by decide) rfl (Nat.le_of_ble_eq_true rfl) ?_
  intro p e s m below meth c ls hx hb hr hml hts hown hlk hnm hC hH hl
  have hl : lv_has ls 5 [(0, .ref (k (5 + 8 * i))), (1, .ref q)] := hl
  have hj := hI.2.2.2.2.1
  have hn24 := hI.2.2.2.2.2.2.1
  have hT3 := hI.2.2.2.2.2.2.2.1
  have hz32 := hI.2.2.2.2.2.2.2.2
  have nIn : (nI n).toInt = (n : Int) := nI_toInt (by omega)
  have hfr : frC k rho f rho f := frC.rf
  have hn0_ := hst.2
  refine lv_aload_n hx hb dX3_perform_0 rfl (lv_at hl 1 rfl) ?_
  refine m_get (ci := 0) (v := .int a) (C := RX0) (T := TX0) (N := 6) hx hb hC hH hts in_X3_perform_X0 hown Fq rfl 1 (by decide) (hts (.fieldLink RX3 110 "LazyState$Act" "a" "I") (by decide +kernel)) rfl dX3_perform_1 ?_
  refine lv_istore_n (lv' := [(2, .int a), (0, .ref (k (5 + 8 * i))), (1, .ref q)]) hx hb dX3_perform_4 rfl hl (by decide) rfl (fun ls hl => ?_)
  refine lv_aload_n hx hb dX3_perform_5 rfl (lv_at hl 2 rfl) ?_
  refine m_get (ci := 0) (v := .long b) (C := RX0) (T := TX0) (N := 6) hx hb hC hH hts in_X3_perform_X0 hown Fq rfl 2 (by decide) (hts (.fieldLink RX3 115 "LazyState$Act" "b" "J") (by decide +kernel)) rfl dX3_perform_6 ?_
  refine lv_l2i (v := b32) hx hb dX3_perform_9 hb32 ?_
  have ib32 : b32.toInt = b.toInt := ic_l2i hb32.symm rfl (by omega) (by omega)
  refine lv_istore_n (lv' := [(3, .int b32), (2, .int a), (0, .ref (k (5 + 8 * i))), (1, .ref q)]) hx hb dX3_perform_10 rfl hl (by decide) rfl (fun ls hl => ?_)
  refine lv_aload_n hx hb dX3_perform_11 rfl (lv_at hl 3 rfl) ?_
  refine m_get (ci := 0) (v := .int c_) (C := RX0) (T := TX0) (N := 6) hx hb hC hH hts in_X3_perform_X0 hown Fq rfl 3 (by decide) (hts (.fieldLink RX3 118 "LazyState$Act" "c" "I") (by decide +kernel)) rfl dX3_perform_12 ?_
  refine lv_istore (lv' := [(4, .int c_), (3, .int b32), (2, .int a), (0, .ref (k (5 + 8 * i))), (1, .ref q)]) hx hb dX3_perform_15 hl (by decide) rfl (fun ls hl => ?_)
  refine lv_aload_n hx hb dX3_perform_17 rfl (lv_at hl 4 rfl) ?_
  refine m_get (ci := 0) (v := .int kd) (C := RX0) (T := TX0) (N := 6) hx hb hC hH hts in_X3_perform_X0 hown Fq rfl 0 (by decide) (hts (.fieldLink RX3 121 "LazyState$Act" "kind" "I") (by decide +kernel)) rfl dX3_perform_18 ?_
  refine lv_tableIn (off := 182) (tgt := 203) hx hb dX3_perform_21 (by rw [hkd]; decide) (by rw [hkd]; decide) (by rw [hkd]; rfl) (by decide) ?_
  refine lv_aload_n hx hb dX3_perform_203 rfl (lv_at hl 3 rfl) ?_
  refine lv_iload_n hx hb dX3_perform_204 rfl (lv_at hl 2 rfl) ?_
  refine lv_iload_n hx hb dX3_perform_205 rfl (lv_at hl 1 rfl) ?_
  refine lv_iconst (v := 1) hx hb dX3_perform_206 (by decide) ?_
  refine lv_aload_n hx hb dX3_perform_207 rfl (lv_at hl 3 rfl) ?_
  obtain ⟨lb_1, dn_1, gf_1, th_1, ta_1, sr_1, nx_1, F_1, s1_1, s2_1⟩ : okRun k st i (f (k (5 + 8 * i))) := hI.run (i := i) (c := 0) hi (by decide)
  have s3_1 := s2_1 hst.1
  subst s3_1
  refine m_get (ci := 3) (v := .ref (k (5 + 8 * i + 7))) (C := RX3) (T := TX3) (N := 11) hx hb hC hH hts in_X3_perform_X3 hown F_1 rfl 9 (by decide) (hts (.fieldLink RX3 32 "LazyState$Run" "values" "[J") (by decide +kernel)) rfl dX3_perform_208 ?_
  refine lv_iload hx hb dX3_perform_211 (lv_at hl 0 rfl) ?_
  obtain ⟨g_2, hg_2, hp_2⟩ : okJ G 4 (fun _ => True) (f (k (5 + 8 * i + 7))) := hI.run (i := i) (c := 7) hi (by decide)
  refine m_lald hx hb hC hH hg_2 (vp_in_iff.mpr ⟨by omega, by omega⟩) dX3_perform_213 ?_
  refine lv_topl (fun y_3 ey_3 => ?_)
  refine m_goi hH (va_runV (As := [.int a, .int b32, .int 1, .long y_3]) (rest := []) ⟨hx, hb, hml, hown, hts⟩ (c_X3_put l G k rho n T z st f hI i hi hst a b32 1 y_3 (by omega) (by exact Or.inl rfl)) (cwV 4 hts gX3_perform_X3_put rfl rfl rfl (by decide +kernel) ⟨Nat.le_of_ble_eq_true rfl, Nat.le_of_ble_eq_true rfl⟩) (m_preV (ci := 3) hC hH F_1 rfl) rfl rfl hl.1 rfl (lv_room (Nat.le_of_ble_eq_true rfl)) dX3_perform_214 ⟨by show _ ≤ 3 * (ndh k i f a.toNatClampNeg); omega, by show _ ≤ 29 * (ndh k i f a.toNatClampNeg); omega⟩) (fun r_4 rho_6 f_5 H locs hw hH => ?_)
  obtain ⟨hI, hfr1, hpt_⟩ := hw
  have hI : IC G k rho_6 n T z st f_5 := hI
  have hfr1 : frC k rho f rho_6 f_5 := hfr1
  have hfr := hfr.trans hfr1
  have rr_7 := (hfr1 _ _ Fq).2.1.trans hq
  have F_8 := (hfr1 _ _ Fq).2.2 (fun j_ hj_ => hI.nk hj_ (by rw [rr_7]; simp)) (Or.inr (by rw [hq]))
  have hpt_ : nul (cpF k i f_5) 24 + ndh k i f a.toNatClampNeg = nul (cpF k i f) 24 := hpt_
  exact m_iret (v := r_4) hx hb hr hlk hC hH rho_6 ⟨hI, hfr, Or.inr hpt_⟩ (by omega) (by omega) dX3_perform_217
set_option maxHeartbeats 4000000 in
set_option maxRecDepth 100000 in
theorem c_X3_perform_6 (l : Launch) (G : mG) (k : Nat → Nat) (rho : tR) (n : Nat) (T z : Nat → Nat) (st : Nat → Bool) (f : mF) (hI : IC G k rho n T z st f) (i : Nat) (hi : i < 3) (hst : st i = true ∧ 0 < n) (q : Nat) (hq : rho q = (4, 0)) (kd a : Int32) (b : Int64) (c_ d_ e_ : Int32) (Fq : f q = some (.inr (0, [.int kd, .int a, .long b, .int c_, .int d_, .int e_]))) (b32 : Int32) (hb32 : b.toInt32 = b32) (hkd : kd.toInt = 6) (h0_ : 0 ≤ a.toInt ∧ a.toInt ≤ 3) (h1_ : 0 ≤ b.toInt ∧ b.toInt ≤ 3) (h2_ : 0 ≤ c_.toInt ∧ c_.toInt ≤ 7) : Met l yX3_perform wsX3_perform ({ frames := 5, cells := 3 * (ndh k i f b32.toNatClampNeg), slots := 29 * (ndh k i f b32.toNatClampNeg), locals := 155 }) (va_Pc [.ref (k (5 + 8 * i)), .ref q] (mW G f)) (va_Qi (fun (r : Int32) (u : mS) => IC G k u.1 n T z st u.2 ∧ frC k rho f u.1 u.2 ∧ (r.toInt ≠ 0 ∨ nul (cpF k i u.2) 24 + (ndh k i f b32.toNatClampNeg) = nul (cpF k i f) 24)) (fun (u : mS) t => mW G u.2 t) (mA G)) (3 * (ndh k i f b32.toNatClampNeg)) (29 * (ndh k i f b32.toNatClampNeg)) (mA G) := by
  refine mMet [.ref (k (5 + 8 * i)), .ref q] (cc := cX3_perform) (maxL := 5) (ret := (some .int)) (by decide) rfl (Nat.le_of_ble_eq_true rfl) ?_
  intro p e s m below meth c ls hx hb hr hml hts hown hlk hnm hC hH hl
  have hl : lv_has ls 5 [(0, .ref (k (5 + 8 * i))), (1, .ref q)] := hl
  have hj := hI.2.2.2.2.1
  have hn24 := hI.2.2.2.2.2.2.1
  have hT3 := hI.2.2.2.2.2.2.2.1
  have hz32 := hI.2.2.2.2.2.2.2.2
  have nIn : (nI n).toInt = (n : Int) := nI_toInt (by omega)
  have hfr : frC k rho f rho f := frC.rf
  have hn0_ := hst.2
  refine lv_aload_n hx hb dX3_perform_0 rfl (lv_at hl 1 rfl) ?_
  refine m_get (ci := 0) (v := .int a) (C := RX0) (T := TX0) (N := 6) hx hb hC hH hts in_X3_perform_X0 hown Fq rfl 1 (by decide) (hts (.fieldLink RX3 110 "LazyState$Act" "a" "I") (by decide +kernel)) rfl dX3_perform_1 ?_
  refine lv_istore_n (lv' := [(2, .int a), (0, .ref (k (5 + 8 * i))), (1, .ref q)]) hx hb dX3_perform_4 rfl hl (by decide) rfl (fun ls hl => ?_)
  refine lv_aload_n hx hb dX3_perform_5 rfl (lv_at hl 2 rfl) ?_
  refine m_get (ci := 0) (v := .long b) (C := RX0) (T := TX0) (N := 6) hx hb hC hH hts in_X3_perform_X0 hown Fq rfl 2 (by decide) (hts (.fieldLink RX3 115 "LazyState$Act" "b" "J") (by decide +kernel)) rfl dX3_perform_6 ?_
  refine lv_l2i (v := b32) hx hb dX3_perform_9 hb32 ?_
  have ib32 : b32.toInt = b.toInt := ic_l2i hb32.symm rfl (by omega) (by omega)
  refine lv_istore_n (lv' := [(3, .int b32), (2, .int a), (0, .ref (k (5 + 8 * i))), (1, .ref q)]) hx hb dX3_perform_10 rfl hl (by decide) rfl (fun ls hl => ?_)
  refine lv_aload_n hx hb dX3_perform_11 rfl (lv_at hl 3 rfl) ?_
  refine m_get (ci := 0) (v := .int c_) (C := RX0) (T := TX0) (N := 6) hx hb hC hH hts in_X3_perform_X0 hown Fq rfl 3 (by decide) (hts (.fieldLink RX3 118 "LazyState$Act" "c" "I") (by decide +kernel)) rfl dX3_perform_12 ?_
  refine lv_istore (lv' := [(4, .int c_), (3, .int b32), (2, .int a), (0, .ref (k (5 + 8 * i))), (1, .ref q)]) hx hb dX3_perform_15 hl (by decide) rfl (fun ls hl => ?_)
  refine lv_aload_n hx hb dX3_perform_17 rfl (lv_at hl 4 rfl) ?_
  refine m_get (ci := 0) (v := .int kd) (C := RX0) (T := TX0) (N := 6) hx hb hC hH hts in_X3_perform_X0 hown Fq rfl 0 (by decide) (hts (.fieldLink RX3 121 "LazyState$Act" "kind" "I") (by decide +kernel)) rfl dX3_perform_18 ?_
  refine lv_tableIn (off := 197) (tgt := 218) hx hb dX3_perform_21 (by rw [hkd]; decide) (by rw [hkd]; decide) (by rw [hkd]; rfl) (by decide) ?_
  refine lv_aload_n hx hb dX3_perform_218 rfl (lv_at hl 3 rfl) ?_
  refine lv_iload_n hx hb dX3_perform_219 rfl (lv_at hl 2 rfl) ?_
  refine lv_iload_n hx hb dX3_perform_220 rfl (lv_at hl 1 rfl) ?_
  refine lv_iload hx hb dX3_perform_221 (lv_at hl 0 rfl) ?_
  obtain ⟨lb_4, dn_4, gf_4, th_4, ta_4, sr_4, nx_4, F_4, s1_4, s2_4⟩ : okRun k st i (f (k (5 + 8 * i))) := hI.run (i := i) (c := 0) hi (by decide)
  have s3_4 := s2_4 hst.1
  subst s3_4
  refine m_goi hH (va_runV (As := [.int a, .int b32, .int c_]) (rest := []) ⟨hx, hb, hml, hown, hts⟩ (c_X3_follow l G k rho n T z st f hI i hi hst a b32 c_ (by omega) (by omega)) (cwV 3 hts gX3_perform_X3_follow rfl rfl rfl (by decide +kernel) ⟨Nat.le_of_ble_eq_true rfl, Nat.le_of_ble_eq_true rfl⟩) (m_preV (ci := 3) hC hH F_4 rfl) rfl rfl hl.1 rfl (lv_room (Nat.le_of_ble_eq_true rfl)) dX3_perform_223 ⟨by show _ ≤ 3 * (ndh k i f b32.toNatClampNeg); omega, by show _ ≤ 29 * (ndh k i f b32.toNatClampNeg); omega⟩) (fun r_1 rho_3 f_2 H locs hw hH => ?_)
  obtain ⟨hI, hfr1, hpt_⟩ := hw
  have hI : IC G k rho_3 n T z st f_2 := hI
  have hfr1 : frC k rho f rho_3 f_2 := hfr1
  have hfr := hfr.trans hfr1
  have rr_5 := (hfr1 _ _ Fq).2.1.trans hq
  have F_6 := (hfr1 _ _ Fq).2.2 (fun j_ hj_ => hI.nk hj_ (by rw [rr_5]; simp)) (Or.inr (by rw [hq]))
  have hpt_ : nul (cpF k i f_2) 24 + ndh k i f b32.toNatClampNeg = nul (cpF k i f) 24 := hpt_
  exact m_iret (v := r_1) hx hb hr hlk hC hH rho_3 ⟨hI, hfr, Or.inr hpt_⟩ (by omega) (by omega) dX3_perform_226
set_option maxHeartbeats 4000000 in
set_option maxRecDepth 100000 in
theorem c_X3_perform_7 (l : Launch) (G : mG) (k : Nat → Nat) (rho : tR) (n : Nat) (T z : Nat → Nat) (st : Nat → Bool) (f : mF) (hI : IC G k rho n T z st f) (i : Nat) (hi : i < 3) (hst : st i = true ∧ 0 < n) (q : Nat) (hq : rho q = (4, 0)) (kd a : Int32) (b : Int64) (c_ d_ e_ : Int32) (Fq : f q = some (.inr (0, [.int kd, .int a, .long b, .int c_, .int d_, .int e_]))) (b32 : Int32) (hb32 : b.toInt32 = b32) (hkd : kd.toInt = 7) (h0_ : 0 ≤ a.toInt ∧ a.toInt ≤ 3) (h1_ : 0 ≤ b.toInt ∧ b.toInt ≤ 7) (h2_ : 0 ≤ c_.toInt ∧ c_.toInt ≤ 3) : Met l yX3_perform wsX3_perform ({ frames := 5, cells := 3 * (ndh k i f a.toNatClampNeg), slots := 29 * (ndh k i f a.toNatClampNeg), locals := 155 }) (va_Pc [.ref (k (5 + 8 * i)), .ref q] (mW G f)) (va_Qi (fun (r : Int32) (u : mS) => IC G k u.1 n T z st u.2 ∧ frC k rho f u.1 u.2 ∧ (r.toInt ≠ 0 ∨ nul (cpF k i u.2) 24 + (ndh k i f a.toNatClampNeg) = nul (cpF k i f) 24)) (fun (u : mS) t => mW G u.2 t) (mA G)) (3 * (ndh k i f a.toNatClampNeg)) (29 * (ndh k i f a.toNatClampNeg)) (mA G) := by
  refine mMet [.ref (k (5 + 8 * i)), .ref q] (cc := cX3_perform) (maxL := 5) (ret := (some .int)) (by decide) rfl (Nat.le_of_ble_eq_true rfl) ?_
  intro p e s m below meth c ls hx hb hr hml hts hown hlk hnm hC hH hl
  have hl : lv_has ls 5 [(0, .ref (k (5 + 8 * i))), (1, .ref q)] := hl
  have hj := hI.2.2.2.2.1
  have hn24 := hI.2.2.2.2.2.2.1
  have hT3 := hI.2.2.2.2.2.2.2.1
  have hz32 := hI.2.2.2.2.2.2.2.2
  have nIn : (nI n).toInt = (n : Int) := nI_toInt (by omega)
  have hfr : frC k rho f rho f := frC.rf
  have hn0_ := hst.2
  refine lv_aload_n hx hb dX3_perform_0 rfl (lv_at hl 1 rfl) ?_
  refine m_get (ci := 0) (v := .int a) (C := RX0) (T := TX0) (N := 6) hx hb hC hH hts in_X3_perform_X0 hown Fq rfl 1 (by decide) (hts (.fieldLink RX3 110 "LazyState$Act" "a" "I") (by decide +kernel)) rfl dX3_perform_1 ?_
  refine lv_istore_n (lv' := [(2, .int a), (0, .ref (k (5 + 8 * i))), (1, .ref q)]) hx hb dX3_perform_4 rfl hl (by decide) rfl (fun ls hl => ?_)
  refine lv_aload_n hx hb dX3_perform_5 rfl (lv_at hl 2 rfl) ?_
  refine m_get (ci := 0) (v := .long b) (C := RX0) (T := TX0) (N := 6) hx hb hC hH hts in_X3_perform_X0 hown Fq rfl 2 (by decide) (hts (.fieldLink RX3 115 "LazyState$Act" "b" "J") (by decide +kernel)) rfl dX3_perform_6 ?_
  refine lv_l2i (v := b32) hx hb dX3_perform_9 hb32 ?_
  have ib32 : b32.toInt = b.toInt := ic_l2i hb32.symm rfl (by omega) (by omega)
  refine lv_istore_n (lv' := [(3, .int b32), (2, .int a), (0, .ref (k (5 + 8 * i))), (1, .ref q)]) hx hb dX3_perform_10 rfl hl (by decide) rfl (fun ls hl => ?_)
  refine lv_aload_n hx hb dX3_perform_11 rfl (lv_at hl 3 rfl) ?_
  refine m_get (ci := 0) (v := .int c_) (C := RX0) (T := TX0) (N := 6) hx hb hC hH hts in_X3_perform_X0 hown Fq rfl 3 (by decide) (hts (.fieldLink RX3 118 "LazyState$Act" "c" "I") (by decide +kernel)) rfl dX3_perform_12 ?_
  refine lv_istore (lv' := [(4, .int c_), (3, .int b32), (2, .int a), (0, .ref (k (5 + 8 * i))), (1, .ref q)]) hx hb dX3_perform_15 hl (by decide) rfl (fun ls hl => ?_)
  refine lv_aload_n hx hb dX3_perform_17 rfl (lv_at hl 4 rfl) ?_
  refine m_get (ci := 0) (v := .int kd) (C := RX0) (T := TX0) (N := 6) hx hb hC hH hts in_X3_perform_X0 hown Fq rfl 0 (by decide) (hts (.fieldLink RX3 121 "LazyState$Act" "kind" "I") (by decide +kernel)) rfl dX3_perform_18 ?_
  refine lv_tableIn (off := 206) (tgt := 227) hx hb dX3_perform_21 (by rw [hkd]; decide) (by rw [hkd]; decide) (by rw [hkd]; rfl) (by decide) ?_
  refine lv_aload_n hx hb dX3_perform_227 rfl (lv_at hl 3 rfl) ?_
  refine lv_iload_n hx hb dX3_perform_228 rfl (lv_at hl 2 rfl) ?_
  refine lv_iload_n hx hb dX3_perform_229 rfl (lv_at hl 1 rfl) ?_
  refine lv_iconst (v := 2) hx hb dX3_perform_230 (by decide) ?_
  refine lv_aload_n hx hb dX3_perform_231 rfl (lv_at hl 3 rfl) ?_
  obtain ⟨lb_1, dn_1, gf_1, th_1, ta_1, sr_1, nx_1, F_1, s1_1, s2_1⟩ : okRun k st i (f (k (5 + 8 * i))) := hI.run (i := i) (c := 0) hi (by decide)
  have s3_1 := s2_1 hst.1
  subst s3_1
  refine m_get (ci := 3) (v := .ref (k (5 + 8 * i + 6))) (C := RX3) (T := TX3) (N := 11) hx hb hC hH hts in_X3_perform_X3 hown F_1 rfl 8 (by decide) (hts (.fieldLink RX3 28 "LazyState$Run" "handles" "[I") (by decide +kernel)) rfl dX3_perform_232 ?_
  refine lv_iload hx hb dX3_perform_235 (lv_at hl 0 rfl) ?_
  obtain ⟨g_2, hg_2, hp_2⟩ : okI G 0 4 (pHa n) (f (k (5 + 8 * i + 6))) := hI.run (i := i) (c := 6) hi (by decide)
  refine m_iald hx hb hC hH hg_2 (vp_in_iff.mpr ⟨by omega, by omega⟩) dX3_perform_237 ?_
  refine lv_topi (fun x_3 ex_3 => ?_)
  have qx_3 := hp_2 (c_.toNatClampNeg) (ic_cl rfl (by omega) (by omega))
  rw [← ex_3] at qx_3
  refine lv_i2l hx hb dX3_perform_238 rfl ?_
  refine lv_topl (fun y_4 ey_4 => ?_)
  have iy_4 : y_4.toInt = x_3.toInt := lc_i2l ey_4 rfl
  have gy_4 := ic_rng x_3
  refine m_goi hH (va_runV (As := [.int a, .int b32, .int 2, .long y_4]) (rest := []) ⟨hx, hb, hml, hown, hts⟩ (c_X3_put l G k rho n T z st f hI i hi hst a b32 2 y_4 (by omega) (by exact Or.inr ⟨rfl, by omega⟩)) (cwV 4 hts gX3_perform_X3_put rfl rfl rfl (by decide +kernel) ⟨Nat.le_of_ble_eq_true rfl, Nat.le_of_ble_eq_true rfl⟩) (m_preV (ci := 3) hC hH F_1 rfl) rfl rfl hl.1 rfl (lv_room (Nat.le_of_ble_eq_true rfl)) dX3_perform_239 ⟨by show _ ≤ 3 * (ndh k i f a.toNatClampNeg); omega, by show _ ≤ 29 * (ndh k i f a.toNatClampNeg); omega⟩) (fun r_5 rho_7 f_6 H locs hw hH => ?_)
  obtain ⟨hI, hfr1, hpt_⟩ := hw
  have hI : IC G k rho_7 n T z st f_6 := hI
  have hfr1 : frC k rho f rho_7 f_6 := hfr1
  have hfr := hfr.trans hfr1
  have rr_8 := (hfr1 _ _ Fq).2.1.trans hq
  have F_9 := (hfr1 _ _ Fq).2.2 (fun j_ hj_ => hI.nk hj_ (by rw [rr_8]; simp)) (Or.inr (by rw [hq]))
  have hpt_ : nul (cpF k i f_6) 24 + ndh k i f a.toNatClampNeg = nul (cpF k i f) 24 := hpt_
  exact m_iret (v := r_5) hx hb hr hlk hC hH rho_7 ⟨hI, hfr, Or.inr hpt_⟩ (by omega) (by omega) dX3_perform_242
set_option maxHeartbeats 4000000 in
set_option maxRecDepth 100000 in
theorem c_X3_perform_8 (l : Launch) (G : mG) (k : Nat → Nat) (rho : tR) (n : Nat) (T z : Nat → Nat) (st : Nat → Bool) (f : mF) (hI : IC G k rho n T z st f) (i : Nat) (hi : i < 3) (hst : st i = true ∧ 0 < n) (q : Nat) (hq : rho q = (4, 0)) (kd a : Int32) (b : Int64) (c_ d_ e_ : Int32) (Fq : f q = some (.inr (0, [.int kd, .int a, .long b, .int c_, .int d_, .int e_]))) (b32 : Int32) (hb32 : b.toInt32 = b32) (hkd : kd.toInt = 8) (h0_ : 0 ≤ a.toInt ∧ a.toInt ≤ 3) (h1_ : 0 ≤ b.toInt ∧ b.toInt ≤ 3) (h2_ : 0 ≤ c_.toInt ∧ c_.toInt ≤ 7) (h3_ : 0 ≤ d_.toInt ∧ d_.toInt ≤ 3) : Met l yX3_perform wsX3_perform ({ frames := 5, cells := 3 * (ndh k i f b32.toNatClampNeg), slots := 29 * (ndh k i f b32.toNatClampNeg), locals := 155 }) (va_Pc [.ref (k (5 + 8 * i)), .ref q] (mW G f)) (va_Qi (fun (r : Int32) (u : mS) => IC G k u.1 n T z st u.2 ∧ frC k rho f u.1 u.2 ∧ (r.toInt ≠ 0 ∨ nul (cpF k i u.2) 24 + (ndh k i f b32.toNatClampNeg) = nul (cpF k i f) 24)) (fun (u : mS) t => mW G u.2 t) (mA G)) (3 * (ndh k i f b32.toNatClampNeg)) (29 * (ndh k i f b32.toNatClampNeg)) (mA G) := by
  refine mMet [.ref (k (5 + 8 * i)), .ref q] (cc := cX3_perform) (maxL := 5) (ret := (some .int)) (by decide) rfl (Nat.le_of_ble_eq_true rfl) ?_
  intro p e s m below meth c ls hx hb hr hml hts hown hlk hnm hC hH hl
  have hl : lv_has ls 5 [(0, .ref (k (5 + 8 * i))), (1, .ref q)] := hl
  have hj := hI.2.2.2.2.1
  have hn24 := hI.2.2.2.2.2.2.1
  have hT3 := hI.2.2.2.2.2.2.2.1
  have hz32 := hI.2.2.2.2.2.2.2.2
  have nIn : (nI n).toInt = (n : Int) := nI_toInt (by omega)
  have hfr : frC k rho f rho f := frC.rf
  have hn0_ := hst.2
  refine lv_aload_n hx hb dX3_perform_0 rfl (lv_at hl 1 rfl) ?_
  refine m_get (ci := 0) (v := .int a) (C := RX0) (T := TX0) (N := 6) hx hb hC hH hts in_X3_perform_X0 hown Fq rfl 1 (by decide) (hts (.fieldLink RX3 110 "LazyState$Act" "a" "I") (by decide +kernel)) rfl dX3_perform_1 ?_
  refine lv_istore_n (lv' := [(2, .int a), (0, .ref (k (5 + 8 * i))), (1, .ref q)]) hx hb dX3_perform_4 rfl hl (by decide) rfl (fun ls hl => ?_)
  refine lv_aload_n hx hb dX3_perform_5 rfl (lv_at hl 2 rfl) ?_
  refine m_get (ci := 0) (v := .long b) (C := RX0) (T := TX0) (N := 6) hx hb hC hH hts in_X3_perform_X0 hown Fq rfl 2 (by decide) (hts (.fieldLink RX3 115 "LazyState$Act" "b" "J") (by decide +kernel)) rfl dX3_perform_6 ?_
  refine lv_l2i (v := b32) hx hb dX3_perform_9 hb32 ?_
  have ib32 : b32.toInt = b.toInt := ic_l2i hb32.symm rfl (by omega) (by omega)
  refine lv_istore_n (lv' := [(3, .int b32), (2, .int a), (0, .ref (k (5 + 8 * i))), (1, .ref q)]) hx hb dX3_perform_10 rfl hl (by decide) rfl (fun ls hl => ?_)
  refine lv_aload_n hx hb dX3_perform_11 rfl (lv_at hl 3 rfl) ?_
  refine m_get (ci := 0) (v := .int c_) (C := RX0) (T := TX0) (N := 6) hx hb hC hH hts in_X3_perform_X0 hown Fq rfl 3 (by decide) (hts (.fieldLink RX3 118 "LazyState$Act" "c" "I") (by decide +kernel)) rfl dX3_perform_12 ?_
  refine lv_istore (lv' := [(4, .int c_), (3, .int b32), (2, .int a), (0, .ref (k (5 + 8 * i))), (1, .ref q)]) hx hb dX3_perform_15 hl (by decide) rfl (fun ls hl => ?_)
  refine lv_aload_n hx hb dX3_perform_17 rfl (lv_at hl 4 rfl) ?_
  refine m_get (ci := 0) (v := .int kd) (C := RX0) (T := TX0) (N := 6) hx hb hC hH hts in_X3_perform_X0 hown Fq rfl 0 (by decide) (hts (.fieldLink RX3 121 "LazyState$Act" "kind" "I") (by decide +kernel)) rfl dX3_perform_18 ?_
  refine lv_tableIn (off := 222) (tgt := 243) hx hb dX3_perform_21 (by rw [hkd]; decide) (by rw [hkd]; decide) (by rw [hkd]; rfl) (by decide) ?_
  refine lv_aload_n hx hb dX3_perform_243 rfl (lv_at hl 3 rfl) ?_
  refine lv_iload_n hx hb dX3_perform_244 rfl (lv_at hl 2 rfl) ?_
  refine lv_iload_n hx hb dX3_perform_245 rfl (lv_at hl 1 rfl) ?_
  refine lv_iload hx hb dX3_perform_246 (lv_at hl 0 rfl) ?_
  refine lv_aload_n hx hb dX3_perform_248 rfl (lv_at hl 4 rfl) ?_
  refine m_get (ci := 0) (v := .int d_) (C := RX0) (T := TX0) (N := 6) hx hb hC hH hts in_X3_perform_X0 hown Fq rfl 4 (by decide) (hts (.fieldLink RX3 139 "LazyState$Act" "d" "I") (by decide +kernel)) rfl dX3_perform_249 ?_
  obtain ⟨lb_4, dn_4, gf_4, th_4, ta_4, sr_4, nx_4, F_4, s1_4, s2_4⟩ : okRun k st i (f (k (5 + 8 * i))) := hI.run (i := i) (c := 0) hi (by decide)
  have s3_4 := s2_4 hst.1
  subst s3_4
  refine m_goi hH (va_runV (As := [.int a, .int b32, .int c_, .int d_]) (rest := []) ⟨hx, hb, hml, hown, hts⟩ (c_X3_getItem l G k rho n T z st f hI i hi hst a b32 c_ d_ (by omega) (by omega) (by omega)) (cwV 4 hts gX3_perform_X3_getItem rfl rfl rfl (by decide +kernel) ⟨Nat.le_of_ble_eq_true rfl, Nat.le_of_ble_eq_true rfl⟩) (m_preV (ci := 3) hC hH F_4 rfl) rfl rfl hl.1 rfl (lv_room (Nat.le_of_ble_eq_true rfl)) dX3_perform_252 ⟨by show _ ≤ 3 * (ndh k i f b32.toNatClampNeg); omega, by show _ ≤ 29 * (ndh k i f b32.toNatClampNeg); omega⟩) (fun r_1 rho_3 f_2 H locs hw hH => ?_)
  obtain ⟨hI, hfr1, hpt_⟩ := hw
  have hI : IC G k rho_3 n T z st f_2 := hI
  have hfr1 : frC k rho f rho_3 f_2 := hfr1
  have hfr := hfr.trans hfr1
  have rr_5 := (hfr1 _ _ Fq).2.1.trans hq
  have F_6 := (hfr1 _ _ Fq).2.2 (fun j_ hj_ => hI.nk hj_ (by rw [rr_5]; simp)) (Or.inr (by rw [hq]))
  have hpt_ : nul (cpF k i f_2) 24 + ndh k i f b32.toNatClampNeg = nul (cpF k i f) 24 := hpt_
  exact m_iret (v := r_1) hx hb hr hlk hC hH rho_3 ⟨hI, hfr, Or.inr hpt_⟩ (by omega) (by omega) dX3_perform_255
