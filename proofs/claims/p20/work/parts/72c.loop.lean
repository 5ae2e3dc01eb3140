set_option maxHeartbeats 40000000 in
set_option maxRecDepth 100000 in
theorem lw_c2 {p : Program} {e : Env} {s : State} {m : MethodId} {below : List Frame} {meth : Method} {c : Code} (l : Launch) {b L : Nat} {xs : Nat → Int32} (hL : L ≤ 4608) (G : mG) (hgN : gN G = s.heap.size) (hC : mC G s) (C0 : lw_At p s m meth c b L xs) (k h : Nat → Nat) (hsep : ∀ i j, i < 41 → j < 30 → k i ≠ h j) (hjk : ∀ j, j < 30 → rM j = false → h j = h 0) (N_ : Nat) (ih_ : lw_I p e s m below meth c l b L G k h N_) (i : Int32) (f : mF) (rho : tR) (cl_ sl_ : Nat) (h0_ : 0 ≤ i.toInt) (h1_ : i.toInt ≤ (L : Int) - 9) (hJ : JI G k h rho f) (hro : ∀ j, j < 30 → (rho (h j)).1 = 0) (hcl : 9 * (cl_ : Int) ≤ 549 + 228 * i.toInt) (hsl : 9 * (sl_ : Int) ≤ 766476 + 2204 * i.toInt) (hN_ : ((4617 : Int) - i.toInt).toNat < N_ + 1) (H : Heap) (locs : List Loc) (ls : Array Slot) (hH : mH G s f H locs) (hl : lv_has ls 4 [(3, .int i), (2, .ref (h 0)), (1, .ref (k 0)), (0, .ref b)]) : W p l e room_1 s m #[Value.ref b] below meth c H locs cl_ sl_ (lw_Z below #[Value.ref b] s) (F0 m 220 ls []) := by
  have C1 := C0
  obtain ⟨hx, hb, hr, hml, hown, hts0, hX, hbl, hlk, hgv⟩ := C0
  have hts : ∀ w ∈ wsL_law, w.before #[Value.ref b] s = true := fun w h => hts0 w (wsL_law_in w h)
  have hbA : ¬ mA G b := fun q => by have q : gN G ≤ b := q; omega
  have hLen : (Int32.ofNat L).toInt = (L : Int) := nI_toInt (by omega)
  obtain ⟨n, T, z, A, hg, ver, cq, fe, tms, ca, wl, wh, ac, th, xc, xm, s_, ⟨D, hM, hG⟩, hF⟩ := hJ
  refine lv_aload_n hx hb dL_law_220 rfl (lv_at hl 2 rfl) ?_
  refine lv_aload_n hx hb dL_law_221 rfl (lv_at hl 3 rfl) ?_
  refine lv_iload_n hx hb dL_law_222 rfl (lv_at hl 0 rfl) ?_
  refine lv_iconst (v := 1) hx hb dL_law_223 (by decide) ?_
  refine lv_iadd hx hb dL_law_224 ?_
  refine lv_topi (fun x_1 ex_1 => ?_)
  have ix_1 : x_1.toInt = i.toInt + 1 := ic_add ex_1 rfl kI_1 (by omega) (by omega)
  refine va_sld (i := x_1) hx hb hX hbl hbA hH.2.2 (vp_in_iff.mpr ⟨by omega, by omega⟩) dL_law_225 ?_
  rw [show x_1.toNatClampNeg = i.toNatClampNeg + 1 from by have := ic_clN (rfl : x_1.toInt = _) (by omega); have := ic_clN (rfl : i.toInt = _) (by omega); omega]
  refine lv_aload_n hx hb dL_law_226 rfl (lv_at hl 3 rfl) ?_
  refine lv_iload_n hx hb dL_law_227 rfl (lv_at hl 0 rfl) ?_
  refine lv_iconst (v := 2) hx hb dL_law_228 (by decide) ?_
  refine lv_iadd hx hb dL_law_229 ?_
  refine lv_topi (fun x_2 ex_2 => ?_)
  have ix_2 : x_2.toInt = i.toInt + 2 := ic_add ex_2 rfl kI_2 (by omega) (by omega)
  refine va_sld (i := x_2) hx hb hX hbl hbA hH.2.2 (vp_in_iff.mpr ⟨by omega, by omega⟩) dL_law_230 ?_
  rw [show x_2.toNatClampNeg = i.toNatClampNeg + 2 from by have := ic_clN (rfl : x_2.toInt = _) (by omega); have := ic_clN (rfl : i.toInt = _) (by omega); omega]
  refine lv_aload_n hx hb dL_law_231 rfl (lv_at hl 3 rfl) ?_
  refine lv_iload_n hx hb dL_law_232 rfl (lv_at hl 0 rfl) ?_
  refine lv_iconst (v := 3) hx hb dL_law_233 (by decide) ?_
  refine lv_iadd hx hb dL_law_234 ?_
  refine lv_topi (fun x_3 ex_3 => ?_)
  have ix_3 : x_3.toInt = i.toInt + 3 := ic_add ex_3 rfl kI_3 (by omega) (by omega)
  refine va_sld (i := x_3) hx hb hX hbl hbA hH.2.2 (vp_in_iff.mpr ⟨by omega, by omega⟩) dL_law_235 ?_
  rw [show x_3.toNatClampNeg = i.toNatClampNeg + 3 from by have := ic_clN (rfl : x_3.toInt = _) (by omega); have := ic_clN (rfl : i.toInt = _) (by omega); omega]
  have F_7 := hM.c0
  refine m_goi hH (va_runV (As := [.int (xs (i.toNatClampNeg + 1)), .int (xs (i.toNatClampNeg + 2)), .int (xs (i.toNatClampNeg + 3))]) (rest := []) ⟨hx, hb, hml, hown, hts⟩ (c_X5_link l G k rho n T z A hg ver cq fe tms ca wl wh ac th xc (ldS s_) (trS s_) (gfS s_) D f hM hG (xs (i.toNatClampNeg + 1)) (xs (i.toNatClampNeg + 2)) (xs (i.toNatClampNeg + 3))) (cwV 3 hts gL_law_X5_link rfl rfl rfl (by decide +kernel) ⟨Nat.le_of_ble_eq_true rfl, Nat.le_of_ble_eq_true rfl⟩) (m_preV (ci := 5) hC hH F_7 rfl) rfl rfl hl.1 rfl (lv_room (Nat.le_of_ble_eq_true rfl)) dL_law_236 ⟨by show _ ≤ 600000; omega, by show _ ≤ 7302250; omega⟩) (fun r_4 rho_6 f_5 H locs hw hH => ?_)
  obtain ⟨hfr_, ho1_⟩ := hw
  try dsimp only at ho1_
  have hfr_ : frD rho f rho_6 f_5 := hfr_
  obtain ⟨hF, hro⟩ := FM.keep hF hjk hro hfr_
  refine lv_pop hx hb dL_law_239 rfl ?_
  refine lv_aload_n hx hb dL_law_240 rfl (lv_at hl 1 rfl) ?_
  refine lv_aload_n hx hb dL_law_241 rfl (lv_at hl 3 rfl) ?_
  refine lv_iload_n hx hb dL_law_242 rfl (lv_at hl 0 rfl) ?_
  refine lv_iconst (v := 1) hx hb dL_law_243 (by decide) ?_
  refine lv_iadd hx hb dL_law_244 ?_
  refine lv_topi (fun x_8 ex_8 => ?_)
  have ix_8 : x_8.toInt = i.toInt + 1 := ic_add ex_8 rfl kI_1 (by omega) (by omega)
  refine va_sld (i := x_8) hx hb hX hbl hbA hH.2.2 (vp_in_iff.mpr ⟨by omega, by omega⟩) dL_law_245 ?_
  rw [show x_8.toNatClampNeg = i.toNatClampNeg + 1 from by have := ic_clN (rfl : x_8.toInt = _) (by omega); have := ic_clN (rfl : i.toInt = _) (by omega); omega]
  refine lv_aload_n hx hb dL_law_246 rfl (lv_at hl 3 rfl) ?_
  refine lv_iload_n hx hb dL_law_247 rfl (lv_at hl 0 rfl) ?_
  refine lv_iconst (v := 2) hx hb dL_law_248 (by decide) ?_
  refine lv_iadd hx hb dL_law_249 ?_
  refine lv_topi (fun x_9 ex_9 => ?_)
  have ix_9 : x_9.toInt = i.toInt + 2 := ic_add ex_9 rfl kI_2 (by omega) (by omega)
  refine va_sld (i := x_9) hx hb hX hbl hbA hH.2.2 (vp_in_iff.mpr ⟨by omega, by omega⟩) dL_law_250 ?_
  rw [show x_9.toNatClampNeg = i.toNatClampNeg + 2 from by have := ic_clN (rfl : x_9.toInt = _) (by omega); have := ic_clN (rfl : i.toInt = _) (by omega); omega]
  refine lv_aload_n hx hb dL_law_251 rfl (lv_at hl 3 rfl) ?_
  refine lv_iload_n hx hb dL_law_252 rfl (lv_at hl 0 rfl) ?_
  refine lv_iconst (v := 3) hx hb dL_law_253 (by decide) ?_
  refine lv_iadd hx hb dL_law_254 ?_
  refine lv_topi (fun x_10 ex_10 => ?_)
  have ix_10 : x_10.toInt = i.toInt + 3 := ic_add ex_10 rfl kI_3 (by omega) (by omega)
  refine va_sld (i := x_10) hx hb hX hbl hbA hH.2.2 (vp_in_iff.mpr ⟨by omega, by omega⟩) dL_law_255 ?_
  rw [show x_10.toNatClampNeg = i.toNatClampNeg + 3 from by have := ic_clN (rfl : x_10.toInt = _) (by omega); have := ic_clN (rfl : i.toInt = _) (by omega); omega]
  obtain ⟨_, F_14⟩ := FM.c0 hF
  refine m_goi hH (va_runV (As := [.int (xs (i.toNatClampNeg + 1)), .int (xs (i.toNatClampNeg + 2)), .int (xs (i.toNatClampNeg + 3))]) (rest := []) ⟨hx, hb, hml, hown, hts⟩ (c_X6_link l G h n T z A hg ver cq fe tms ca wl wh ac th xm s_ f_5 hF (xs (i.toNatClampNeg + 1)) (xs (i.toNatClampNeg + 2)) (xs (i.toNatClampNeg + 3))) (cwV 3 hts gL_law_X6_link rfl rfl rfl (by decide +kernel) ⟨Nat.le_of_ble_eq_true rfl, Nat.le_of_ble_eq_true rfl⟩) (m_preV (ci := 6) hC hH F_14 rfl) rfl rfl hl.1 rfl (lv_room (Nat.le_of_ble_eq_true rfl)) dL_law_256 ⟨by show _ ≤ 600000; omega, by show _ ≤ 7302250; omega⟩) (fun r_11 rho_13 f_12 H locs hw hH => ?_)
  obtain ⟨hfr_, ho2_⟩ := hw
  try dsimp only at ho2_
  have hfr_ : frM h f_5 f_12 := hfr_
  obtain ⟨er_, hJ⟩ := join_link ho1_ ho2_ (fun _ _ _ q_ => q_.keep hro hfr_)
  have er_ : r_4.toInt = r_11.toInt := congrArg Int32.toInt er_
  refine lv_pop hx hb dL_law_259 rfl ?_
  refine lv_goto (tgt := 857) hx hb dL_law_260 (by decide) ?_
  obtain ⟨x_15, ex_15⟩ : ∃ y : Int32, y = i + 9 := ⟨_, rfl⟩
  have ix_15 : x_15.toInt = i.toInt + 9 := ic_add ex_15 rfl kI_9 (by omega) (by omega)
  refine lv_iinc (v := x_15) (lv' := [(3, .int x_15), (2, .ref (h 0)), (1, .ref (k 0)), (0, .ref b)]) hx hb dL_law_857 hl (k := 0) rfl (by rw [ex_15]; rfl) (by decide) rfl (fun ls hl => ?_)
  refine lv_goto (tgt := 18) hx hb dL_law_860 (by decide) ?_
  exact ih_ x_15 f_12 rho_6 (cl_ + 3 + 0) (sl_ + 29 + 0) (by omega) (by omega) hJ hro (by omega) (by omega) (by omega) _ _ _ hH (lv_sub hl [0, 1, 2, 3] rfl)
