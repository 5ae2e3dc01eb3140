set_option maxHeartbeats 40000000 in
set_option maxRecDepth 100000 in
theorem lw_loop {p : Program} {e : Env} {s : State} {m : MethodId} {below : List Frame} {meth : Method} {c : Code} (l : Launch) {b L : Nat} {xs : Nat → Int32} (hL : L ≤ 4608) (G : mG) (hgN : gN G = s.heap.size) (hC : mC G s) (C0 : lw_At p s m meth c b L xs) (k h : Nat → Nat) (hsep : ∀ i j, i < 41 → j < 30 → k i ≠ h j) (hjk : ∀ j, j < 30 → rM j = false → h j = h 0) : ∀ (fuel_ : Nat) (i : Int32) (f : mF) (rho : tR) (n : Nat) (T : Nat → Nat) (T2 : Nat → Int32) (z : Nat → Nat) (A : Nat → tA) (st : Nat → Bool) (cl_ sl_ : Nat) (_ : 0 ≤ i.toInt) (_ : i.toInt ≤ L) (_ : IC G k rho n T z st f) (_ : IM G h n T2 z A f) (_ : ∀ j, j < 30 → (rho (h j)).1 = 0) (_ : 9 * (cl_ : Int) ≤ 549 + 228 * i.toInt) (_ : 9 * (sl_ : Int) ≤ 766476 + 2204 * i.toInt) (_ : ((4617 : Int) - i.toInt).toNat < fuel_) (H : Heap) (locs : List Loc) (ls : Array Slot) (_ : mH G s f H locs) (_ : lv_has ls 4 [(3, .int i), (2, .ref (h 0)), (1, .ref (k 0)), (0, .ref b)]), W p l e room_1 s m #[Value.ref b] below meth c H locs cl_ sl_ (lw_Z below #[Value.ref b] s) (F0 m 18 ls []) := by
  obtain ⟨hx, hb, hr, hml, hown, hts0, hX, hbl, hlk, hgv⟩ := C0
  have hts : ∀ w ∈ wsL_law, w.before #[Value.ref b] s = true := fun w h => hts0 w (wsL_law_in w h)
  have hbA : ¬ mA G b := fun q => by have q : gN G ≤ b := q; omega
  have hLen : (Int32.ofNat L).toInt = (L : Int) := nI_toInt (by omega)
  intro fuel_
  induction fuel_ with
  | zero => intro i f rho n T T2 z A st cl_ sl_ q1 q2 q3 q4 q5 q6 q7 q8; omega
  | succ N_ ih_ =>
    intro i f rho n T T2 z A st cl_ sl_ h0_ h1_ hIC hIM hro hcl hsl hN_ H locs ls hH hl
    refine lv_iload_n hx hb dL_law_18 rfl (lv_at hl 0 rfl) ?_
    refine lv_aload_n hx hb dL_law_19 rfl (lv_at hl 3 rfl) ?_
    refine va_slen hx hb hX hbl hbA hH.2.2 dL_law_20 ?_
    refine lv_bipush (v := 9) hx hb dL_law_21 (by decide) ?_
    refine lv_isub hx hb dL_law_23 ?_
    refine lv_topi (fun x_1 ex_1 => ?_)
    have ix_1 : x_1.toInt = (L : Int) - 9 := ic_sub ex_1 hLen kI_9 (by omega) (by omega)
    refine lv_icmp_gt (tgt := 863) hx hb dL_law_24 (by decide) (fun c_2 => ?_) (fun c_2 => ?_)
    · skip
      have ic_2 : (x_1.toInt : Int) < i.toInt := ic_lt rfl rfl c_2
      refine lv_iconst (v := 1) hx hb dL_law_863 (by decide) ?_
      refine va_forget (fun q_ hq_ => by have := hH.2.2.2.2 q_ hq_; rw [← hgN]; exact this) ?_
      refine W.widen (k := 600000) (n := 7302250) (by omega) (by omega) ?_
      exact lw_ret hx hb hr hlk dL_law_864
    · skip
      have ic_2 : (x_1.toInt : Int) ≥ i.toInt := ic_nlt rfl rfl c_2
      refine lv_aload_n hx hb dL_law_27 rfl (lv_at hl 3 rfl) ?_
      refine lv_iload_n hx hb dL_law_28 rfl (lv_at hl 0 rfl) ?_
      refine va_sld (i := i) hx hb hX hbl hbA hH.2.2 (vp_in_iff.mpr ⟨by omega, by omega⟩) dL_law_29 ?_
      refine lv_bipush (v := 31) hx hb dL_law_30 (by decide) ?_
      refine lv_iand hx hb dL_law_32 ?_
      refine lv_topi (fun x_3 ex_3 => ?_)
      have hk_4 : (x_3.toInt < 0 ∨ 18 < x_3.toInt) ∨ x_3.toInt = 0 ∨ x_3.toInt = 1 ∨ x_3.toInt = 2 ∨ x_3.toInt = 3 ∨ x_3.toInt = 4 ∨ x_3.toInt = 5 ∨ x_3.toInt = 6 ∨ x_3.toInt = 7 ∨ x_3.toInt = 8 ∨ x_3.toInt = 9 ∨ x_3.toInt = 10 ∨ x_3.toInt = 11 ∨ x_3.toInt = 12 ∨ x_3.toInt = 13 ∨ x_3.toInt = 14 ∨ x_3.toInt = 15 ∨ x_3.toInt = 16 ∨ x_3.toInt = 17 ∨ x_3.toInt = 18 := by omega
      rcases hk_4 with hk_4 | hk_4 | hk_4 | hk_4 | hk_4 | hk_4 | hk_4 | hk_4 | hk_4 | hk_4 | hk_4 | hk_4 | hk_4 | hk_4 | hk_4 | hk_4 | hk_4 | hk_4 | hk_4 | hk_4
      · skip
        refine lv_tableOut (tgt := 857) hx hb dL_law_33 hk_4 (by decide) ?_
        obtain ⟨x_5, ex_5⟩ : ∃ y : Int32, y = i + 9 := ⟨_, rfl⟩
        have ix_5 : x_5.toInt = i.toInt + 9 := ic_add ex_5 rfl kI_9 (by omega) (by omega)
        refine lv_iinc (v := x_5) (lv' := [(3, .int x_5), (2, .ref (h 0)), (1, .ref (k 0)), (0, .ref b)]) hx hb dL_law_857 hl (k := 0) rfl (by rw [ex_5]; rfl) (by decide) rfl (fun ls hl => ?_)
        refine lv_goto (tgt := 18) hx hb dL_law_860 (by decide) ?_
        exact ih_ x_5 f rho n T T2 z A st cl_ sl_ (by omega) (by omega) hIC hIM hro (by omega) (by omega) (by omega) _ _ _ hH (lv_sub hl [0, 1, 2, 3] rfl)
      · skip
        have jk_4 : x_3.toInt = 0 := hk_4
        refine lv_tableIn (off := 91) (tgt := 124) hx hb dL_law_33 (by rw [jk_4]; decide) (by rw [jk_4]; decide) (by rw [jk_4]; rfl) (by decide) ?_
        refine lv_aload_n hx hb dL_law_124 rfl (lv_at hl 2 rfl) ?_
        refine lv_aload_n hx hb dL_law_125 rfl (lv_at hl 3 rfl) ?_
        refine lv_iload_n hx hb dL_law_126 rfl (lv_at hl 0 rfl) ?_
        refine lv_iconst (v := 1) hx hb dL_law_127 (by decide) ?_
        refine lv_iadd hx hb dL_law_128 ?_
        refine lv_topi (fun x_6 ex_6 => ?_)
        have ix_6 : x_6.toInt = i.toInt + 1 := ic_add ex_6 rfl kI_1 (by omega) (by omega)
        refine va_sld (i := x_6) hx hb hX hbl hbA hH.2.2 (vp_in_iff.mpr ⟨by omega, by omega⟩) dL_law_129 ?_
        rw [show x_6.toNatClampNeg = i.toNatClampNeg + 1 from by have := ic_clN (rfl : x_6.toInt = _) (by omega); have := ic_clN (rfl : i.toInt = _) (by omega); omega]
        obtain ⟨_, _, _, _, _, _, F_10, -⟩ : okLS k n (f (k 0)) := hIC.ls
        refine m_goi hH (va_runV (As := [.int (xs (i.toNatClampNeg + 1))]) (rest := []) ⟨hx, hb, hml, hown, hts⟩ (c_X5_object l G k rho n T z st f hIC (xs (i.toNatClampNeg + 1))) (cwV 1 hts gL_law_X5_object rfl rfl rfl (by decide +kernel) ⟨Nat.le_of_ble_eq_true rfl, Nat.le_of_ble_eq_true rfl⟩) (m_preV (ci := 5) hC hH F_10 rfl) rfl rfl hl.1 rfl (lv_room (Nat.le_of_ble_eq_true rfl)) dL_law_130 ⟨by show _ ≤ 600000; omega, by show _ ≤ 7302250; omega⟩) (fun r_7 rho_9 f_8 H locs hw hH => ?_)
        obtain ⟨hfr_, ho1_⟩ := hw
        have hfr_ : frC k rho f rho_9 f_8 := hfr_
        have hkm_ := keepM hIM hjk hsep hro hfr_
        have hIM : IM G h n T2 z A f_8 := hIM.ext hkm_.1
        have hro := hkm_.2
        try dsimp only at ho1_
        refine lv_aload_n hx hb dL_law_133 rfl (lv_at hl 1 rfl) ?_
        refine lv_aload_n hx hb dL_law_134 rfl (lv_at hl 3 rfl) ?_
        refine lv_iload_n hx hb dL_law_135 rfl (lv_at hl 0 rfl) ?_
        refine lv_iconst (v := 1) hx hb dL_law_136 (by decide) ?_
        refine lv_iadd hx hb dL_law_137 ?_
        refine lv_topi (fun x_11 ex_11 => ?_)
        have ix_11 : x_11.toInt = i.toInt + 1 := ic_add ex_11 rfl kI_1 (by omega) (by omega)
        refine va_sld (i := x_11) hx hb hX hbl hbA hH.2.2 (vp_in_iff.mpr ⟨by omega, by omega⟩) dL_law_138 ?_
        rw [show x_11.toNatClampNeg = i.toNatClampNeg + 1 from by have := ic_clN (rfl : x_11.toInt = _) (by omega); have := ic_clN (rfl : i.toInt = _) (by omega); omega]
        obtain ⟨_, _, _, _, _, _, _, _, _, _, F_15, -⟩ : okM0 h n (f_8 (h 0)) := hIM.1 0 (by decide)
        refine m_goi hH (va_runV (As := [.int (xs (i.toNatClampNeg + 1))]) (rest := [.int r_7]) ⟨hx, hb, hml, hown, hts⟩ (c_X6_object l G h n T2 z A f_8 hIM (xs (i.toNatClampNeg + 1))) (cwV 1 hts gL_law_X6_object rfl rfl rfl (by decide +kernel) ⟨Nat.le_of_ble_eq_true rfl, Nat.le_of_ble_eq_true rfl⟩) (m_preV (ci := 6) hC hH F_15 rfl) rfl rfl hl.1 rfl (lv_room (Nat.le_of_ble_eq_true rfl)) dL_law_139 ⟨by show _ ≤ 600000; omega, by show _ ≤ 7302250; omega⟩) (fun r_12 rho_14 f_13 H locs hw hH => ?_)
        obtain ⟨hfr_, ho2_⟩ := hw
        have hfr_ : frM h f_8 f_13 := hfr_
        try dsimp only at ho2_
        obtain ⟨n_2, Ta_2, Tb_2, er_, hIC, hIM⟩ := join_obj ho1_ ho2_ (fun _ _ _ _ q_ => q_.ext (keepC1 hsep hfr_) (keepC2 hro hfr_))
        refine lv_icmp_eq (tgt := 857) hx hb dL_law_142 (by decide) (fun c_16 => ?_) (fun c_16 => ?_)
        · skip
          have ic_16 : (r_7.toInt : Int) = r_12.toInt := ic_eq rfl rfl c_16
          obtain ⟨x_17, ex_17⟩ : ∃ y : Int32, y = i + 9 := ⟨_, rfl⟩
          have ix_17 : x_17.toInt = i.toInt + 9 := ic_add ex_17 rfl kI_9 (by omega) (by omega)
          refine lv_iinc (v := x_17) (lv' := [(3, .int x_17), (2, .ref (h 0)), (1, .ref (k 0)), (0, .ref b)]) hx hb dL_law_857 hl (k := 0) rfl (by rw [ex_17]; rfl) (by decide) rfl (fun ls hl => ?_)
          refine lv_goto (tgt := 18) hx hb dL_law_860 (by decide) ?_
          exact ih_ x_17 f_13 rho_9 n_2 Ta_2 Tb_2 z A st (cl_ + 3 + 0) (sl_ + 29 + 0) (by omega) (by omega) hIC hIM hro (by omega) (by omega) (by omega) _ _ _ hH (lv_sub hl [0, 1, 2, 3] rfl)
        · skip
          have ic_16 : (r_7.toInt : Int) ≠ r_12.toInt := ic_ne rfl rfl c_16
          omega
      · skip
        have jk_4 : x_3.toInt = 1 := hk_4
        refine lv_tableIn (off := 114) (tgt := 147) hx hb dL_law_33 (by rw [jk_4]; decide) (by rw [jk_4]; decide) (by rw [jk_4]; rfl) (by decide) ?_
        refine lv_aload_n hx hb dL_law_147 rfl (lv_at hl 2 rfl) ?_
        refine lv_aload_n hx hb dL_law_148 rfl (lv_at hl 3 rfl) ?_
        refine lv_iload_n hx hb dL_law_149 rfl (lv_at hl 0 rfl) ?_
        refine lv_iconst (v := 1) hx hb dL_law_150 (by decide) ?_
        refine lv_iadd hx hb dL_law_151 ?_
        refine lv_topi (fun x_18 ex_18 => ?_)
        have ix_18 : x_18.toInt = i.toInt + 1 := ic_add ex_18 rfl kI_1 (by omega) (by omega)
        refine va_sld (i := x_18) hx hb hX hbl hbA hH.2.2 (vp_in_iff.mpr ⟨by omega, by omega⟩) dL_law_152 ?_
        rw [show x_18.toNatClampNeg = i.toNatClampNeg + 1 from by have := ic_clN (rfl : x_18.toInt = _) (by omega); have := ic_clN (rfl : i.toInt = _) (by omega); omega]
        refine lv_aload_n hx hb dL_law_153 rfl (lv_at hl 3 rfl) ?_
        refine lv_iload_n hx hb dL_law_154 rfl (lv_at hl 0 rfl) ?_
        refine lv_iconst (v := 2) hx hb dL_law_155 (by decide) ?_
        refine lv_iadd hx hb dL_law_156 ?_
        refine lv_topi (fun x_19 ex_19 => ?_)
        have ix_19 : x_19.toInt = i.toInt + 2 := ic_add ex_19 rfl kI_2 (by omega) (by omega)
        refine va_sld (i := x_19) hx hb hX hbl hbA hH.2.2 (vp_in_iff.mpr ⟨by omega, by omega⟩) dL_law_157 ?_
        rw [show x_19.toNatClampNeg = i.toNatClampNeg + 2 from by have := ic_clN (rfl : x_19.toInt = _) (by omega); have := ic_clN (rfl : i.toInt = _) (by omega); omega]
        refine lv_aload_n hx hb dL_law_158 rfl (lv_at hl 3 rfl) ?_
        refine lv_iload_n hx hb dL_law_159 rfl (lv_at hl 0 rfl) ?_
        refine lv_iconst (v := 3) hx hb dL_law_160 (by decide) ?_
        refine lv_iadd hx hb dL_law_161 ?_
        refine lv_topi (fun x_20 ex_20 => ?_)
        have ix_20 : x_20.toInt = i.toInt + 3 := ic_add ex_20 rfl kI_3 (by omega) (by omega)
        refine va_sld (i := x_20) hx hb hX hbl hbA hH.2.2 (vp_in_iff.mpr ⟨by omega, by omega⟩) dL_law_162 ?_
        rw [show x_20.toNatClampNeg = i.toNatClampNeg + 3 from by have := ic_clN (rfl : x_20.toInt = _) (by omega); have := ic_clN (rfl : i.toInt = _) (by omega); omega]
        refine lv_i2l hx hb dL_law_163 rfl ?_
        refine lv_bipush (v := 32) hx hb dL_law_164 (by decide) ?_
        refine lv_lshl hx hb dL_law_166 rfl ?_
        refine lv_aload_n hx hb dL_law_167 rfl (lv_at hl 3 rfl) ?_
        refine lv_iload_n hx hb dL_law_168 rfl (lv_at hl 0 rfl) ?_
        refine lv_iconst (v := 4) hx hb dL_law_169 (by decide) ?_
        refine lv_iadd hx hb dL_law_170 ?_
        refine lv_topi (fun x_21 ex_21 => ?_)
        have ix_21 : x_21.toInt = i.toInt + 4 := ic_add ex_21 rfl kI_4 (by omega) (by omega)
        refine va_sld (i := x_21) hx hb hX hbl hbA hH.2.2 (vp_in_iff.mpr ⟨by omega, by omega⟩) dL_law_171 ?_
        rw [show x_21.toNatClampNeg = i.toNatClampNeg + 4 from by have := ic_clN (rfl : x_21.toInt = _) (by omega); have := ic_clN (rfl : i.toInt = _) (by omega); omega]
        refine lv_i2l hx hb dL_law_172 rfl ?_
        refine lv_ldc2 (v := 4294967295) hx hb hown (hts (.constantLong RL 18 (4294967295)) (by decide +kernel)) dL_law_173 ?_
        refine lv_land hx hb dL_law_176 ?_
        refine lv_lor hx hb dL_law_177 ?_
        obtain ⟨_, _, _, _, _, _, F_25, -⟩ : okLS k n (f (k 0)) := hIC.ls
        refine m_goi hH (va_runV (As := [.int (xs (i.toNatClampNeg + 1)), .int (xs (i.toNatClampNeg + 2)), .long ((((xs (i.toNatClampNeg + 3)).toInt64) <<< ((32 : Int32).toInt64 &&& 63)) ||| (((xs (i.toNatClampNeg + 4)).toInt64) &&& 4294967295))]) (rest := []) ⟨hx, hb, hml, hown, hts⟩ (c_X5_number l G k rho n T z st f hIC (xs (i.toNatClampNeg + 1)) (xs (i.toNatClampNeg + 2)) ((((xs (i.toNatClampNeg + 3)).toInt64) <<< ((32 : Int32).toInt64 &&& 63)) ||| (((xs (i.toNatClampNeg + 4)).toInt64) &&& 4294967295))) (cwV 3 hts gL_law_X5_number rfl rfl rfl (by decide +kernel) ⟨Nat.le_of_ble_eq_true rfl, Nat.le_of_ble_eq_true rfl⟩) (m_preV (ci := 5) hC hH F_25 rfl) rfl rfl hl.1 rfl (lv_room (Nat.le_of_ble_eq_true rfl)) dL_law_178 ⟨by show _ ≤ 600000; omega, by show _ ≤ 7302250; omega⟩) (fun r_22 rho_24 f_23 H locs hw hH => ?_)
        obtain ⟨hIC, hfr_⟩ := hw
        have hIC : IC G k rho_24 n T z st f_23 := hIC
        have hfr_ : frC k rho f rho_24 f_23 := hfr_
        have hkm_ := keepM hIM hjk hsep hro hfr_
        have hIM : IM G h n T2 z A f_23 := hIM.ext hkm_.1
        have hro := hkm_.2
        refine lv_pop hx hb dL_law_181 rfl ?_
        refine lv_aload_n hx hb dL_law_182 rfl (lv_at hl 1 rfl) ?_
        refine lv_aload_n hx hb dL_law_183 rfl (lv_at hl 3 rfl) ?_
        refine lv_iload_n hx hb dL_law_184 rfl (lv_at hl 0 rfl) ?_
        refine lv_iconst (v := 1) hx hb dL_law_185 (by decide) ?_
        refine lv_iadd hx hb dL_law_186 ?_
        refine lv_topi (fun x_26 ex_26 => ?_)
        have ix_26 : x_26.toInt = i.toInt + 1 := ic_add ex_26 rfl kI_1 (by omega) (by omega)
        refine va_sld (i := x_26) hx hb hX hbl hbA hH.2.2 (vp_in_iff.mpr ⟨by omega, by omega⟩) dL_law_187 ?_
        rw [show x_26.toNatClampNeg = i.toNatClampNeg + 1 from by have := ic_clN (rfl : x_26.toInt = _) (by omega); have := ic_clN (rfl : i.toInt = _) (by omega); omega]
        refine lv_aload_n hx hb dL_law_188 rfl (lv_at hl 3 rfl) ?_
        refine lv_iload_n hx hb dL_law_189 rfl (lv_at hl 0 rfl) ?_
        refine lv_iconst (v := 2) hx hb dL_law_190 (by decide) ?_
        refine lv_iadd hx hb dL_law_191 ?_
        refine lv_topi (fun x_27 ex_27 => ?_)
        have ix_27 : x_27.toInt = i.toInt + 2 := ic_add ex_27 rfl kI_2 (by omega) (by omega)
        refine va_sld (i := x_27) hx hb hX hbl hbA hH.2.2 (vp_in_iff.mpr ⟨by omega, by omega⟩) dL_law_192 ?_
        rw [show x_27.toNatClampNeg = i.toNatClampNeg + 2 from by have := ic_clN (rfl : x_27.toInt = _) (by omega); have := ic_clN (rfl : i.toInt = _) (by omega); omega]
        refine lv_aload_n hx hb dL_law_193 rfl (lv_at hl 3 rfl) ?_
        refine lv_iload_n hx hb dL_law_194 rfl (lv_at hl 0 rfl) ?_
        refine lv_iconst (v := 3) hx hb dL_law_195 (by decide) ?_
        refine lv_iadd hx hb dL_law_196 ?_
        refine lv_topi (fun x_28 ex_28 => ?_)
        have ix_28 : x_28.toInt = i.toInt + 3 := ic_add ex_28 rfl kI_3 (by omega) (by omega)
        refine va_sld (i := x_28) hx hb hX hbl hbA hH.2.2 (vp_in_iff.mpr ⟨by omega, by omega⟩) dL_law_197 ?_
        rw [show x_28.toNatClampNeg = i.toNatClampNeg + 3 from by have := ic_clN (rfl : x_28.toInt = _) (by omega); have := ic_clN (rfl : i.toInt = _) (by omega); omega]
        refine lv_i2l hx hb dL_law_198 rfl ?_
        refine lv_bipush (v := 32) hx hb dL_law_199 (by decide) ?_
        refine lv_lshl hx hb dL_law_201 rfl ?_
        refine lv_aload_n hx hb dL_law_202 rfl (lv_at hl 3 rfl) ?_
        refine lv_iload_n hx hb dL_law_203 rfl (lv_at hl 0 rfl) ?_
        refine lv_iconst (v := 4) hx hb dL_law_204 (by decide) ?_
        refine lv_iadd hx hb dL_law_205 ?_
        refine lv_topi (fun x_29 ex_29 => ?_)
        have ix_29 : x_29.toInt = i.toInt + 4 := ic_add ex_29 rfl kI_4 (by omega) (by omega)
        refine va_sld (i := x_29) hx hb hX hbl hbA hH.2.2 (vp_in_iff.mpr ⟨by omega, by omega⟩) dL_law_206 ?_
        rw [show x_29.toNatClampNeg = i.toNatClampNeg + 4 from by have := ic_clN (rfl : x_29.toInt = _) (by omega); have := ic_clN (rfl : i.toInt = _) (by omega); omega]
        refine lv_i2l hx hb dL_law_207 rfl ?_
        refine lv_ldc2 (v := 4294967295) hx hb hown (hts (.constantLong RL 18 (4294967295)) (by decide +kernel)) dL_law_208 ?_
        refine lv_land hx hb dL_law_211 ?_
        refine lv_lor hx hb dL_law_212 ?_
        obtain ⟨_, _, _, _, _, _, _, _, _, _, F_33, -⟩ : okM0 h n (f_23 (h 0)) := hIM.1 0 (by decide)
        refine m_goi hH (va_runV (As := [.int (xs (i.toNatClampNeg + 1)), .int (xs (i.toNatClampNeg + 2)), .long ((((xs (i.toNatClampNeg + 3)).toInt64) <<< ((32 : Int32).toInt64 &&& 63)) ||| (((xs (i.toNatClampNeg + 4)).toInt64) &&& 4294967295))]) (rest := []) ⟨hx, hb, hml, hown, hts⟩ (c_X6_number l G h n T2 z A f_23 hIM (xs (i.toNatClampNeg + 1)) (xs (i.toNatClampNeg + 2)) ((((xs (i.toNatClampNeg + 3)).toInt64) <<< ((32 : Int32).toInt64 &&& 63)) ||| (((xs (i.toNatClampNeg + 4)).toInt64) &&& 4294967295))) (cwV 3 hts gL_law_X6_number rfl rfl rfl (by decide +kernel) ⟨Nat.le_of_ble_eq_true rfl, Nat.le_of_ble_eq_true rfl⟩) (m_preV (ci := 6) hC hH F_33 rfl) rfl rfl hl.1 rfl (lv_room (Nat.le_of_ble_eq_true rfl)) dL_law_213 ⟨by show _ ≤ 600000; omega, by show _ ≤ 7302250; omega⟩) (fun r_30 rho_32 f_31 H locs hw hH => ?_)
        obtain ⟨hIM, hfr_⟩ := hw
        have hIM : IM G h n T2 z A f_31 := hIM
        have hfr_ : frM h f_23 f_31 := hfr_
        have hIC : IC G k rho_24 n T z st f_31 := hIC.ext (keepC1 hsep hfr_) (keepC2 hro hfr_)
        refine lv_pop hx hb dL_law_216 rfl ?_
        refine lv_goto (tgt := 857) hx hb dL_law_217 (by decide) ?_
        obtain ⟨x_34, ex_34⟩ : ∃ y : Int32, y = i + 9 := ⟨_, rfl⟩
        have ix_34 : x_34.toInt = i.toInt + 9 := ic_add ex_34 rfl kI_9 (by omega) (by omega)
        refine lv_iinc (v := x_34) (lv' := [(3, .int x_34), (2, .ref (h 0)), (1, .ref (k 0)), (0, .ref b)]) hx hb dL_law_857 hl (k := 0) rfl (by rw [ex_34]; rfl) (by decide) rfl (fun ls hl => ?_)
        refine lv_goto (tgt := 18) hx hb dL_law_860 (by decide) ?_
        exact ih_ x_34 f_31 rho_24 n T T2 z A st (cl_ + 3 + 0) (sl_ + 29 + 0) (by omega) (by omega) hIC hIM hro (by omega) (by omega) (by omega) _ _ _ hH (lv_sub hl [0, 1, 2, 3] rfl)
      · skip
        have jk_4 : x_3.toInt = 2 := hk_4
        refine lv_tableIn (off := 187) (tgt := 220) hx hb dL_law_33 (by rw [jk_4]; decide) (by rw [jk_4]; decide) (by rw [jk_4]; rfl) (by decide) ?_
        refine lv_aload_n hx hb dL_law_220 rfl (lv_at hl 2 rfl) ?_
        refine lv_aload_n hx hb dL_law_221 rfl (lv_at hl 3 rfl) ?_
        refine lv_iload_n hx hb dL_law_222 rfl (lv_at hl 0 rfl) ?_
        refine lv_iconst (v := 1) hx hb dL_law_223 (by decide) ?_
        refine lv_iadd hx hb dL_law_224 ?_
        refine lv_topi (fun x_35 ex_35 => ?_)
        have ix_35 : x_35.toInt = i.toInt + 1 := ic_add ex_35 rfl kI_1 (by omega) (by omega)
        refine va_sld (i := x_35) hx hb hX hbl hbA hH.2.2 (vp_in_iff.mpr ⟨by omega, by omega⟩) dL_law_225 ?_
        rw [show x_35.toNatClampNeg = i.toNatClampNeg + 1 from by have := ic_clN (rfl : x_35.toInt = _) (by omega); have := ic_clN (rfl : i.toInt = _) (by omega); omega]
        refine lv_aload_n hx hb dL_law_226 rfl (lv_at hl 3 rfl) ?_
        refine lv_iload_n hx hb dL_law_227 rfl (lv_at hl 0 rfl) ?_
        refine lv_iconst (v := 2) hx hb dL_law_228 (by decide) ?_
        refine lv_iadd hx hb dL_law_229 ?_
        refine lv_topi (fun x_36 ex_36 => ?_)
        have ix_36 : x_36.toInt = i.toInt + 2 := ic_add ex_36 rfl kI_2 (by omega) (by omega)
        refine va_sld (i := x_36) hx hb hX hbl hbA hH.2.2 (vp_in_iff.mpr ⟨by omega, by omega⟩) dL_law_230 ?_
        rw [show x_36.toNatClampNeg = i.toNatClampNeg + 2 from by have := ic_clN (rfl : x_36.toInt = _) (by omega); have := ic_clN (rfl : i.toInt = _) (by omega); omega]
        refine lv_aload_n hx hb dL_law_231 rfl (lv_at hl 3 rfl) ?_
        refine lv_iload_n hx hb dL_law_232 rfl (lv_at hl 0 rfl) ?_
        refine lv_iconst (v := 3) hx hb dL_law_233 (by decide) ?_
        refine lv_iadd hx hb dL_law_234 ?_
        refine lv_topi (fun x_37 ex_37 => ?_)
        have ix_37 : x_37.toInt = i.toInt + 3 := ic_add ex_37 rfl kI_3 (by omega) (by omega)
        refine va_sld (i := x_37) hx hb hX hbl hbA hH.2.2 (vp_in_iff.mpr ⟨by omega, by omega⟩) dL_law_235 ?_
        rw [show x_37.toNatClampNeg = i.toNatClampNeg + 3 from by have := ic_clN (rfl : x_37.toInt = _) (by omega); have := ic_clN (rfl : i.toInt = _) (by omega); omega]
        obtain ⟨_, _, _, _, _, _, F_41, -⟩ : okLS k n (f (k 0)) := hIC.ls
        refine m_goi hH (va_runV (As := [.int (xs (i.toNatClampNeg + 1)), .int (xs (i.toNatClampNeg + 2)), .int (xs (i.toNatClampNeg + 3))]) (rest := []) ⟨hx, hb, hml, hown, hts⟩ (c_X5_link l G k rho n T z st f hIC (xs (i.toNatClampNeg + 1)) (xs (i.toNatClampNeg + 2)) (xs (i.toNatClampNeg + 3))) (cwV 3 hts gL_law_X5_link rfl rfl rfl (by decide +kernel) ⟨Nat.le_of_ble_eq_true rfl, Nat.le_of_ble_eq_true rfl⟩) (m_preV (ci := 5) hC hH F_41 rfl) rfl rfl hl.1 rfl (lv_room (Nat.le_of_ble_eq_true rfl)) dL_law_236 ⟨by show _ ≤ 600000; omega, by show _ ≤ 7302250; omega⟩) (fun r_38 rho_40 f_39 H locs hw hH => ?_)
        obtain ⟨hIC, hfr_⟩ := hw
        have hIC : IC G k rho_40 n T z st f_39 := hIC
        have hfr_ : frC k rho f rho_40 f_39 := hfr_
        have hkm_ := keepM hIM hjk hsep hro hfr_
        have hIM : IM G h n T2 z A f_39 := hIM.ext hkm_.1
        have hro := hkm_.2
        refine lv_pop hx hb dL_law_239 rfl ?_
        refine lv_aload_n hx hb dL_law_240 rfl (lv_at hl 1 rfl) ?_
        refine lv_aload_n hx hb dL_law_241 rfl (lv_at hl 3 rfl) ?_
        refine lv_iload_n hx hb dL_law_242 rfl (lv_at hl 0 rfl) ?_
        refine lv_iconst (v := 1) hx hb dL_law_243 (by decide) ?_
        refine lv_iadd hx hb dL_law_244 ?_
        refine lv_topi (fun x_42 ex_42 => ?_)
        have ix_42 : x_42.toInt = i.toInt + 1 := ic_add ex_42 rfl kI_1 (by omega) (by omega)
        refine va_sld (i := x_42) hx hb hX hbl hbA hH.2.2 (vp_in_iff.mpr ⟨by omega, by omega⟩) dL_law_245 ?_
        rw [show x_42.toNatClampNeg = i.toNatClampNeg + 1 from by have := ic_clN (rfl : x_42.toInt = _) (by omega); have := ic_clN (rfl : i.toInt = _) (by omega); omega]
        refine lv_aload_n hx hb dL_law_246 rfl (lv_at hl 3 rfl) ?_
        refine lv_iload_n hx hb dL_law_247 rfl (lv_at hl 0 rfl) ?_
        refine lv_iconst (v := 2) hx hb dL_law_248 (by decide) ?_
        refine lv_iadd hx hb dL_law_249 ?_
        refine lv_topi (fun x_43 ex_43 => ?_)
        have ix_43 : x_43.toInt = i.toInt + 2 := ic_add ex_43 rfl kI_2 (by omega) (by omega)
        refine va_sld (i := x_43) hx hb hX hbl hbA hH.2.2 (vp_in_iff.mpr ⟨by omega, by omega⟩) dL_law_250 ?_
        rw [show x_43.toNatClampNeg = i.toNatClampNeg + 2 from by have := ic_clN (rfl : x_43.toInt = _) (by omega); have := ic_clN (rfl : i.toInt = _) (by omega); omega]
        refine lv_aload_n hx hb dL_law_251 rfl (lv_at hl 3 rfl) ?_
        refine lv_iload_n hx hb dL_law_252 rfl (lv_at hl 0 rfl) ?_
        refine lv_iconst (v := 3) hx hb dL_law_253 (by decide) ?_
        refine lv_iadd hx hb dL_law_254 ?_
        refine lv_topi (fun x_44 ex_44 => ?_)
        have ix_44 : x_44.toInt = i.toInt + 3 := ic_add ex_44 rfl kI_3 (by omega) (by omega)
        refine va_sld (i := x_44) hx hb hX hbl hbA hH.2.2 (vp_in_iff.mpr ⟨by omega, by omega⟩) dL_law_255 ?_
        rw [show x_44.toNatClampNeg = i.toNatClampNeg + 3 from by have := ic_clN (rfl : x_44.toInt = _) (by omega); have := ic_clN (rfl : i.toInt = _) (by omega); omega]
        obtain ⟨_, _, _, _, _, _, _, _, _, _, F_48, -⟩ : okM0 h n (f_39 (h 0)) := hIM.1 0 (by decide)
        refine m_goi hH (va_runV (As := [.int (xs (i.toNatClampNeg + 1)), .int (xs (i.toNatClampNeg + 2)), .int (xs (i.toNatClampNeg + 3))]) (rest := []) ⟨hx, hb, hml, hown, hts⟩ (c_X6_link l G h n T2 z A f_39 hIM (xs (i.toNatClampNeg + 1)) (xs (i.toNatClampNeg + 2)) (xs (i.toNatClampNeg + 3))) (cwV 3 hts gL_law_X6_link rfl rfl rfl (by decide +kernel) ⟨Nat.le_of_ble_eq_true rfl, Nat.le_of_ble_eq_true rfl⟩) (m_preV (ci := 6) hC hH F_48 rfl) rfl rfl hl.1 rfl (lv_room (Nat.le_of_ble_eq_true rfl)) dL_law_256 ⟨by show _ ≤ 600000; omega, by show _ ≤ 7302250; omega⟩) (fun r_45 rho_47 f_46 H locs hw hH => ?_)
        obtain ⟨hIM, hfr_⟩ := hw
        have hIM : IM G h n T2 z A f_46 := hIM
        have hfr_ : frM h f_39 f_46 := hfr_
        have hIC : IC G k rho_40 n T z st f_46 := hIC.ext (keepC1 hsep hfr_) (keepC2 hro hfr_)
        refine lv_pop hx hb dL_law_259 rfl ?_
        refine lv_goto (tgt := 857) hx hb dL_law_260 (by decide) ?_
        obtain ⟨x_49, ex_49⟩ : ∃ y : Int32, y = i + 9 := ⟨_, rfl⟩
        have ix_49 : x_49.toInt = i.toInt + 9 := ic_add ex_49 rfl kI_9 (by omega) (by omega)
        refine lv_iinc (v := x_49) (lv' := [(3, .int x_49), (2, .ref (h 0)), (1, .ref (k 0)), (0, .ref b)]) hx hb dL_law_857 hl (k := 0) rfl (by rw [ex_49]; rfl) (by decide) rfl (fun ls hl => ?_)
        refine lv_goto (tgt := 18) hx hb dL_law_860 (by decide) ?_
        exact ih_ x_49 f_46 rho_40 n T T2 z A st (cl_ + 3 + 0) (sl_ + 29 + 0) (by omega) (by omega) hIC hIM hro (by omega) (by omega) (by omega) _ _ _ hH (lv_sub hl [0, 1, 2, 3] rfl)
      · skip
        have jk_4 : x_3.toInt = 3 := hk_4
        refine lv_tableIn (off := 230) (tgt := 263) hx hb dL_law_33 (by rw [jk_4]; decide) (by rw [jk_4]; decide) (by rw [jk_4]; rfl) (by decide) ?_
        refine lv_aload_n hx hb dL_law_263 rfl (lv_at hl 2 rfl) ?_
        refine lv_aload_n hx hb dL_law_264 rfl (lv_at hl 3 rfl) ?_
        refine lv_iload_n hx hb dL_law_265 rfl (lv_at hl 0 rfl) ?_
        refine lv_iconst (v := 1) hx hb dL_law_266 (by decide) ?_
        refine lv_iadd hx hb dL_law_267 ?_
        refine lv_topi (fun x_50 ex_50 => ?_)
        have ix_50 : x_50.toInt = i.toInt + 1 := ic_add ex_50 rfl kI_1 (by omega) (by omega)
        refine va_sld (i := x_50) hx hb hX hbl hbA hH.2.2 (vp_in_iff.mpr ⟨by omega, by omega⟩) dL_law_268 ?_
        rw [show x_50.toNatClampNeg = i.toNatClampNeg + 1 from by have := ic_clN (rfl : x_50.toInt = _) (by omega); have := ic_clN (rfl : i.toInt = _) (by omega); omega]
        refine lv_aload_n hx hb dL_law_269 rfl (lv_at hl 3 rfl) ?_
        refine lv_iload_n hx hb dL_law_270 rfl (lv_at hl 0 rfl) ?_
        refine lv_iconst (v := 2) hx hb dL_law_271 (by decide) ?_
        refine lv_iadd hx hb dL_law_272 ?_
        refine lv_topi (fun x_51 ex_51 => ?_)
        have ix_51 : x_51.toInt = i.toInt + 2 := ic_add ex_51 rfl kI_2 (by omega) (by omega)
        refine va_sld (i := x_51) hx hb hX hbl hbA hH.2.2 (vp_in_iff.mpr ⟨by omega, by omega⟩) dL_law_273 ?_
        rw [show x_51.toNatClampNeg = i.toNatClampNeg + 2 from by have := ic_clN (rfl : x_51.toInt = _) (by omega); have := ic_clN (rfl : i.toInt = _) (by omega); omega]
        refine lv_aload_n hx hb dL_law_274 rfl (lv_at hl 3 rfl) ?_
        refine lv_iload_n hx hb dL_law_275 rfl (lv_at hl 0 rfl) ?_
        refine lv_iconst (v := 3) hx hb dL_law_276 (by decide) ?_
        refine lv_iadd hx hb dL_law_277 ?_
        refine lv_topi (fun x_52 ex_52 => ?_)
        have ix_52 : x_52.toInt = i.toInt + 3 := ic_add ex_52 rfl kI_3 (by omega) (by omega)
        refine va_sld (i := x_52) hx hb hX hbl hbA hH.2.2 (vp_in_iff.mpr ⟨by omega, by omega⟩) dL_law_278 ?_
        rw [show x_52.toNatClampNeg = i.toNatClampNeg + 3 from by have := ic_clN (rfl : x_52.toInt = _) (by omega); have := ic_clN (rfl : i.toInt = _) (by omega); omega]
        obtain ⟨_, _, _, _, _, _, F_56, -⟩ : okLS k n (f (k 0)) := hIC.ls
        refine m_goi hH (va_runV (As := [.int (xs (i.toNatClampNeg + 1)), .int (xs (i.toNatClampNeg + 2)), .int (xs (i.toNatClampNeg + 3))]) (rest := []) ⟨hx, hb, hml, hown, hts⟩ (c_X5_row l G k rho n T z st f hIC (xs (i.toNatClampNeg + 1)) (xs (i.toNatClampNeg + 2)) (xs (i.toNatClampNeg + 3))) (cwV 3 hts gL_law_X5_row rfl rfl rfl (by decide +kernel) ⟨Nat.le_of_ble_eq_true rfl, Nat.le_of_ble_eq_true rfl⟩) (m_preV (ci := 5) hC hH F_56 rfl) rfl rfl hl.1 rfl (lv_room (Nat.le_of_ble_eq_true rfl)) dL_law_279 ⟨by show _ ≤ 600000; omega, by show _ ≤ 7302250; omega⟩) (fun r_53 rho_55 f_54 H locs hw hH => ?_)
        obtain ⟨hIC, hfr_⟩ := hw
        have hIC : IC G k rho_55 n T z st f_54 := hIC
        have hfr_ : frC k rho f rho_55 f_54 := hfr_
        have hkm_ := keepM hIM hjk hsep hro hfr_
        have hIM : IM G h n T2 z A f_54 := hIM.ext hkm_.1
        have hro := hkm_.2
        refine lv_pop hx hb dL_law_282 rfl ?_
        refine lv_aload_n hx hb dL_law_283 rfl (lv_at hl 1 rfl) ?_
        refine lv_aload_n hx hb dL_law_284 rfl (lv_at hl 3 rfl) ?_
        refine lv_iload_n hx hb dL_law_285 rfl (lv_at hl 0 rfl) ?_
        refine lv_iconst (v := 1) hx hb dL_law_286 (by decide) ?_
        refine lv_iadd hx hb dL_law_287 ?_
        refine lv_topi (fun x_57 ex_57 => ?_)
        have ix_57 : x_57.toInt = i.toInt + 1 := ic_add ex_57 rfl kI_1 (by omega) (by omega)
        refine va_sld (i := x_57) hx hb hX hbl hbA hH.2.2 (vp_in_iff.mpr ⟨by omega, by omega⟩) dL_law_288 ?_
        rw [show x_57.toNatClampNeg = i.toNatClampNeg + 1 from by have := ic_clN (rfl : x_57.toInt = _) (by omega); have := ic_clN (rfl : i.toInt = _) (by omega); omega]
        refine lv_aload_n hx hb dL_law_289 rfl (lv_at hl 3 rfl) ?_
        refine lv_iload_n hx hb dL_law_290 rfl (lv_at hl 0 rfl) ?_
        refine lv_iconst (v := 2) hx hb dL_law_291 (by decide) ?_
        refine lv_iadd hx hb dL_law_292 ?_
        refine lv_topi (fun x_58 ex_58 => ?_)
        have ix_58 : x_58.toInt = i.toInt + 2 := ic_add ex_58 rfl kI_2 (by omega) (by omega)
        refine va_sld (i := x_58) hx hb hX hbl hbA hH.2.2 (vp_in_iff.mpr ⟨by omega, by omega⟩) dL_law_293 ?_
        rw [show x_58.toNatClampNeg = i.toNatClampNeg + 2 from by have := ic_clN (rfl : x_58.toInt = _) (by omega); have := ic_clN (rfl : i.toInt = _) (by omega); omega]
        refine lv_aload_n hx hb dL_law_294 rfl (lv_at hl 3 rfl) ?_
        refine lv_iload_n hx hb dL_law_295 rfl (lv_at hl 0 rfl) ?_
        refine lv_iconst (v := 3) hx hb dL_law_296 (by decide) ?_
        refine lv_iadd hx hb dL_law_297 ?_
        refine lv_topi (fun x_59 ex_59 => ?_)
        have ix_59 : x_59.toInt = i.toInt + 3 := ic_add ex_59 rfl kI_3 (by omega) (by omega)
        refine va_sld (i := x_59) hx hb hX hbl hbA hH.2.2 (vp_in_iff.mpr ⟨by omega, by omega⟩) dL_law_298 ?_
        rw [show x_59.toNatClampNeg = i.toNatClampNeg + 3 from by have := ic_clN (rfl : x_59.toInt = _) (by omega); have := ic_clN (rfl : i.toInt = _) (by omega); omega]
        obtain ⟨_, _, _, _, _, _, _, _, _, _, F_63, -⟩ : okM0 h n (f_54 (h 0)) := hIM.1 0 (by decide)
        refine m_goi hH (va_runV (As := [.int (xs (i.toNatClampNeg + 1)), .int (xs (i.toNatClampNeg + 2)), .int (xs (i.toNatClampNeg + 3))]) (rest := []) ⟨hx, hb, hml, hown, hts⟩ (c_X6_row l G h n T2 z A f_54 hIM (xs (i.toNatClampNeg + 1)) (xs (i.toNatClampNeg + 2)) (xs (i.toNatClampNeg + 3))) (cwV 3 hts gL_law_X6_row rfl rfl rfl (by decide +kernel) ⟨Nat.le_of_ble_eq_true rfl, Nat.le_of_ble_eq_true rfl⟩) (m_preV (ci := 6) hC hH F_63 rfl) rfl rfl hl.1 rfl (lv_room (Nat.le_of_ble_eq_true rfl)) dL_law_299 ⟨by show _ ≤ 600000; omega, by show _ ≤ 7302250; omega⟩) (fun r_60 rho_62 f_61 H locs hw hH => ?_)
        obtain ⟨hIM, hfr_⟩ := hw
        have hIM : IM G h n T2 z A f_61 := hIM
        have hfr_ : frM h f_54 f_61 := hfr_
        have hIC : IC G k rho_55 n T z st f_61 := hIC.ext (keepC1 hsep hfr_) (keepC2 hro hfr_)
        refine lv_pop hx hb dL_law_302 rfl ?_
        refine lv_goto (tgt := 857) hx hb dL_law_303 (by decide) ?_
        obtain ⟨x_64, ex_64⟩ : ∃ y : Int32, y = i + 9 := ⟨_, rfl⟩
        have ix_64 : x_64.toInt = i.toInt + 9 := ic_add ex_64 rfl kI_9 (by omega) (by omega)
        refine lv_iinc (v := x_64) (lv' := [(3, .int x_64), (2, .ref (h 0)), (1, .ref (k 0)), (0, .ref b)]) hx hb dL_law_857 hl (k := 0) rfl (by rw [ex_64]; rfl) (by decide) rfl (fun ls hl => ?_)
        refine lv_goto (tgt := 18) hx hb dL_law_860 (by decide) ?_
        exact ih_ x_64 f_61 rho_55 n T T2 z A st (cl_ + 3 + 0) (sl_ + 29 + 0) (by omega) (by omega) hIC hIM hro (by omega) (by omega) (by omega) _ _ _ hH (lv_sub hl [0, 1, 2, 3] rfl)
      · skip
        have jk_4 : x_3.toInt = 4 := hk_4
        refine lv_tableIn (off := 273) (tgt := 306) hx hb dL_law_33 (by rw [jk_4]; decide) (by rw [jk_4]; decide) (by rw [jk_4]; rfl) (by decide) ?_
        refine lv_aload_n hx hb dL_law_306 rfl (lv_at hl 2 rfl) ?_
        refine lv_aload_n hx hb dL_law_307 rfl (lv_at hl 3 rfl) ?_
        refine lv_iload_n hx hb dL_law_308 rfl (lv_at hl 0 rfl) ?_
        refine lv_iconst (v := 1) hx hb dL_law_309 (by decide) ?_
        refine lv_iadd hx hb dL_law_310 ?_
        refine lv_topi (fun x_65 ex_65 => ?_)
        have ix_65 : x_65.toInt = i.toInt + 1 := ic_add ex_65 rfl kI_1 (by omega) (by omega)
        refine va_sld (i := x_65) hx hb hX hbl hbA hH.2.2 (vp_in_iff.mpr ⟨by omega, by omega⟩) dL_law_311 ?_
        rw [show x_65.toNatClampNeg = i.toNatClampNeg + 1 from by have := ic_clN (rfl : x_65.toInt = _) (by omega); have := ic_clN (rfl : i.toInt = _) (by omega); omega]
        refine lv_aload_n hx hb dL_law_312 rfl (lv_at hl 3 rfl) ?_
        refine lv_iload_n hx hb dL_law_313 rfl (lv_at hl 0 rfl) ?_
        refine lv_iconst (v := 2) hx hb dL_law_314 (by decide) ?_
        refine lv_iadd hx hb dL_law_315 ?_
        refine lv_topi (fun x_66 ex_66 => ?_)
        have ix_66 : x_66.toInt = i.toInt + 2 := ic_add ex_66 rfl kI_2 (by omega) (by omega)
        refine va_sld (i := x_66) hx hb hX hbl hbA hH.2.2 (vp_in_iff.mpr ⟨by omega, by omega⟩) dL_law_316 ?_
        rw [show x_66.toNatClampNeg = i.toNatClampNeg + 2 from by have := ic_clN (rfl : x_66.toInt = _) (by omega); have := ic_clN (rfl : i.toInt = _) (by omega); omega]
        refine lv_aload_n hx hb dL_law_317 rfl (lv_at hl 3 rfl) ?_
        refine lv_iload_n hx hb dL_law_318 rfl (lv_at hl 0 rfl) ?_
        refine lv_iconst (v := 3) hx hb dL_law_319 (by decide) ?_
        refine lv_iadd hx hb dL_law_320 ?_
        refine lv_topi (fun x_67 ex_67 => ?_)
        have ix_67 : x_67.toInt = i.toInt + 3 := ic_add ex_67 rfl kI_3 (by omega) (by omega)
        refine va_sld (i := x_67) hx hb hX hbl hbA hH.2.2 (vp_in_iff.mpr ⟨by omega, by omega⟩) dL_law_321 ?_
        rw [show x_67.toNatClampNeg = i.toNatClampNeg + 3 from by have := ic_clN (rfl : x_67.toInt = _) (by omega); have := ic_clN (rfl : i.toInt = _) (by omega); omega]
        refine lv_aload_n hx hb dL_law_322 rfl (lv_at hl 3 rfl) ?_
        refine lv_iload_n hx hb dL_law_323 rfl (lv_at hl 0 rfl) ?_
        refine lv_iconst (v := 4) hx hb dL_law_324 (by decide) ?_
        refine lv_iadd hx hb dL_law_325 ?_
        refine lv_topi (fun x_68 ex_68 => ?_)
        have ix_68 : x_68.toInt = i.toInt + 4 := ic_add ex_68 rfl kI_4 (by omega) (by omega)
        refine va_sld (i := x_68) hx hb hX hbl hbA hH.2.2 (vp_in_iff.mpr ⟨by omega, by omega⟩) dL_law_326 ?_
        rw [show x_68.toNatClampNeg = i.toNatClampNeg + 4 from by have := ic_clN (rfl : x_68.toInt = _) (by omega); have := ic_clN (rfl : i.toInt = _) (by omega); omega]
        refine lv_i2l hx hb dL_law_327 rfl ?_
        refine lv_bipush (v := 32) hx hb dL_law_328 (by decide) ?_
        refine lv_lshl hx hb dL_law_330 rfl ?_
        refine lv_aload_n hx hb dL_law_331 rfl (lv_at hl 3 rfl) ?_
        refine lv_iload_n hx hb dL_law_332 rfl (lv_at hl 0 rfl) ?_
        refine lv_iconst (v := 5) hx hb dL_law_333 (by decide) ?_
        refine lv_iadd hx hb dL_law_334 ?_
        refine lv_topi (fun x_69 ex_69 => ?_)
        have ix_69 : x_69.toInt = i.toInt + 5 := ic_add ex_69 rfl kI_5 (by omega) (by omega)
        refine va_sld (i := x_69) hx hb hX hbl hbA hH.2.2 (vp_in_iff.mpr ⟨by omega, by omega⟩) dL_law_335 ?_
        rw [show x_69.toNatClampNeg = i.toNatClampNeg + 5 from by have := ic_clN (rfl : x_69.toInt = _) (by omega); have := ic_clN (rfl : i.toInt = _) (by omega); omega]
        refine lv_i2l hx hb dL_law_336 rfl ?_
        refine lv_ldc2 (v := 4294967295) hx hb hown (hts (.constantLong RL 18 (4294967295)) (by decide +kernel)) dL_law_337 ?_
        refine lv_land hx hb dL_law_340 ?_
        refine lv_lor hx hb dL_law_341 ?_
        refine lv_aload_n hx hb dL_law_342 rfl (lv_at hl 3 rfl) ?_
        refine lv_iload_n hx hb dL_law_343 rfl (lv_at hl 0 rfl) ?_
        refine lv_bipush (v := 6) hx hb dL_law_344 (by decide) ?_
        refine lv_iadd hx hb dL_law_346 ?_
        refine lv_topi (fun x_70 ex_70 => ?_)
        have ix_70 : x_70.toInt = i.toInt + 6 := ic_add ex_70 rfl kI_6 (by omega) (by omega)
        refine va_sld (i := x_70) hx hb hX hbl hbA hH.2.2 (vp_in_iff.mpr ⟨by omega, by omega⟩) dL_law_347 ?_
        rw [show x_70.toNatClampNeg = i.toNatClampNeg + 6 from by have := ic_clN (rfl : x_70.toInt = _) (by omega); have := ic_clN (rfl : i.toInt = _) (by omega); omega]
        refine lv_aload_n hx hb dL_law_348 rfl (lv_at hl 3 rfl) ?_
        refine lv_iload_n hx hb dL_law_349 rfl (lv_at hl 0 rfl) ?_
        refine lv_bipush (v := 7) hx hb dL_law_350 (by decide) ?_
        refine lv_iadd hx hb dL_law_352 ?_
        refine lv_topi (fun x_71 ex_71 => ?_)
        have ix_71 : x_71.toInt = i.toInt + 7 := ic_add ex_71 rfl kI_7 (by omega) (by omega)
        refine va_sld (i := x_71) hx hb hX hbl hbA hH.2.2 (vp_in_iff.mpr ⟨by omega, by omega⟩) dL_law_353 ?_
        rw [show x_71.toNatClampNeg = i.toNatClampNeg + 7 from by have := ic_clN (rfl : x_71.toInt = _) (by omega); have := ic_clN (rfl : i.toInt = _) (by omega); omega]
        refine lv_aload_n hx hb dL_law_354 rfl (lv_at hl 3 rfl) ?_
        refine lv_iload_n hx hb dL_law_355 rfl (lv_at hl 0 rfl) ?_
        refine lv_bipush (v := 8) hx hb dL_law_356 (by decide) ?_
        refine lv_iadd hx hb dL_law_358 ?_
        refine lv_topi (fun x_72 ex_72 => ?_)
        have ix_72 : x_72.toInt = i.toInt + 8 := ic_add ex_72 rfl kI_8 (by omega) (by omega)
        refine va_sld (i := x_72) hx hb hX hbl hbA hH.2.2 (vp_in_iff.mpr ⟨by omega, by omega⟩) dL_law_359 ?_
        rw [show x_72.toNatClampNeg = i.toNatClampNeg + 8 from by have := ic_clN (rfl : x_72.toInt = _) (by omega); have := ic_clN (rfl : i.toInt = _) (by omega); omega]
        obtain ⟨_, _, _, _, _, _, F_76, -⟩ : okLS k n (f (k 0)) := hIC.ls
        refine m_goi hH (va_runV (As := [.int (xs (i.toNatClampNeg + 1)), .int (xs (i.toNatClampNeg + 2)), .int (xs (i.toNatClampNeg + 3)), .long ((((xs (i.toNatClampNeg + 4)).toInt64) <<< ((32 : Int32).toInt64 &&& 63)) ||| (((xs (i.toNatClampNeg + 5)).toInt64) &&& 4294967295)), .int (xs (i.toNatClampNeg + 6)), .int (xs (i.toNatClampNeg + 7)), .int (xs (i.toNatClampNeg + 8))]) (rest := []) ⟨hx, hb, hml, hown, hts⟩ (c_X5_act l G k rho n T z st f hIC (xs (i.toNatClampNeg + 1)) (xs (i.toNatClampNeg + 2)) (xs (i.toNatClampNeg + 3)) ((((xs (i.toNatClampNeg + 4)).toInt64) <<< ((32 : Int32).toInt64 &&& 63)) ||| (((xs (i.toNatClampNeg + 5)).toInt64) &&& 4294967295)) (xs (i.toNatClampNeg + 6)) (xs (i.toNatClampNeg + 7)) (xs (i.toNatClampNeg + 8))) (cwV 7 hts gL_law_X5_act rfl rfl rfl (by decide +kernel) ⟨Nat.le_of_ble_eq_true rfl, Nat.le_of_ble_eq_true rfl⟩) (m_preV (ci := 5) hC hH F_76 rfl) rfl rfl hl.1 rfl (lv_room (Nat.le_of_ble_eq_true rfl)) dL_law_360 ⟨by show _ ≤ 600000; omega, by show _ ≤ 7302250; omega⟩) (fun r_73 rho_75 f_74 H locs hw hH => ?_)
        obtain ⟨hfr_, ho1_⟩ := hw
        have hfr_ : frC k rho f rho_75 f_74 := hfr_
        have hkm_ := keepM hIM hjk hsep hro hfr_
        have hIM : IM G h n T2 z A f_74 := hIM.ext hkm_.1
        have hro := hkm_.2
        try dsimp only at ho1_
        refine lv_pop hx hb dL_law_363 rfl ?_
        refine lv_aload_n hx hb dL_law_364 rfl (lv_at hl 1 rfl) ?_
        refine lv_aload_n hx hb dL_law_365 rfl (lv_at hl 3 rfl) ?_
        refine lv_iload_n hx hb dL_law_366 rfl (lv_at hl 0 rfl) ?_
        refine lv_iconst (v := 1) hx hb dL_law_367 (by decide) ?_
        refine lv_iadd hx hb dL_law_368 ?_
        refine lv_topi (fun x_77 ex_77 => ?_)
        have ix_77 : x_77.toInt = i.toInt + 1 := ic_add ex_77 rfl kI_1 (by omega) (by omega)
        refine va_sld (i := x_77) hx hb hX hbl hbA hH.2.2 (vp_in_iff.mpr ⟨by omega, by omega⟩) dL_law_369 ?_
        rw [show x_77.toNatClampNeg = i.toNatClampNeg + 1 from by have := ic_clN (rfl : x_77.toInt = _) (by omega); have := ic_clN (rfl : i.toInt = _) (by omega); omega]
        refine lv_aload_n hx hb dL_law_370 rfl (lv_at hl 3 rfl) ?_
        refine lv_iload_n hx hb dL_law_371 rfl (lv_at hl 0 rfl) ?_
        refine lv_iconst (v := 2) hx hb dL_law_372 (by decide) ?_
        refine lv_iadd hx hb dL_law_373 ?_
        refine lv_topi (fun x_78 ex_78 => ?_)
        have ix_78 : x_78.toInt = i.toInt + 2 := ic_add ex_78 rfl kI_2 (by omega) (by omega)
        refine va_sld (i := x_78) hx hb hX hbl hbA hH.2.2 (vp_in_iff.mpr ⟨by omega, by omega⟩) dL_law_374 ?_
        rw [show x_78.toNatClampNeg = i.toNatClampNeg + 2 from by have := ic_clN (rfl : x_78.toInt = _) (by omega); have := ic_clN (rfl : i.toInt = _) (by omega); omega]
        refine lv_aload_n hx hb dL_law_375 rfl (lv_at hl 3 rfl) ?_
        refine lv_iload_n hx hb dL_law_376 rfl (lv_at hl 0 rfl) ?_
        refine lv_iconst (v := 3) hx hb dL_law_377 (by decide) ?_
        refine lv_iadd hx hb dL_law_378 ?_
        refine lv_topi (fun x_79 ex_79 => ?_)
        have ix_79 : x_79.toInt = i.toInt + 3 := ic_add ex_79 rfl kI_3 (by omega) (by omega)
        refine va_sld (i := x_79) hx hb hX hbl hbA hH.2.2 (vp_in_iff.mpr ⟨by omega, by omega⟩) dL_law_379 ?_
        rw [show x_79.toNatClampNeg = i.toNatClampNeg + 3 from by have := ic_clN (rfl : x_79.toInt = _) (by omega); have := ic_clN (rfl : i.toInt = _) (by omega); omega]
        refine lv_aload_n hx hb dL_law_380 rfl (lv_at hl 3 rfl) ?_
        refine lv_iload_n hx hb dL_law_381 rfl (lv_at hl 0 rfl) ?_
        refine lv_iconst (v := 4) hx hb dL_law_382 (by decide) ?_
        refine lv_iadd hx hb dL_law_383 ?_
        refine lv_topi (fun x_80 ex_80 => ?_)
        have ix_80 : x_80.toInt = i.toInt + 4 := ic_add ex_80 rfl kI_4 (by omega) (by omega)
        refine va_sld (i := x_80) hx hb hX hbl hbA hH.2.2 (vp_in_iff.mpr ⟨by omega, by omega⟩) dL_law_384 ?_
        rw [show x_80.toNatClampNeg = i.toNatClampNeg + 4 from by have := ic_clN (rfl : x_80.toInt = _) (by omega); have := ic_clN (rfl : i.toInt = _) (by omega); omega]
        refine lv_i2l hx hb dL_law_385 rfl ?_
        refine lv_bipush (v := 32) hx hb dL_law_386 (by decide) ?_
        refine lv_lshl hx hb dL_law_388 rfl ?_
        refine lv_aload_n hx hb dL_law_389 rfl (lv_at hl 3 rfl) ?_
        refine lv_iload_n hx hb dL_law_390 rfl (lv_at hl 0 rfl) ?_
        refine lv_iconst (v := 5) hx hb dL_law_391 (by decide) ?_
        refine lv_iadd hx hb dL_law_392 ?_
        refine lv_topi (fun x_81 ex_81 => ?_)
        have ix_81 : x_81.toInt = i.toInt + 5 := ic_add ex_81 rfl kI_5 (by omega) (by omega)
        refine va_sld (i := x_81) hx hb hX hbl hbA hH.2.2 (vp_in_iff.mpr ⟨by omega, by omega⟩) dL_law_393 ?_
        rw [show x_81.toNatClampNeg = i.toNatClampNeg + 5 from by have := ic_clN (rfl : x_81.toInt = _) (by omega); have := ic_clN (rfl : i.toInt = _) (by omega); omega]
        refine lv_i2l hx hb dL_law_394 rfl ?_
        refine lv_ldc2 (v := 4294967295) hx hb hown (hts (.constantLong RL 18 (4294967295)) (by decide +kernel)) dL_law_395 ?_
        refine lv_land hx hb dL_law_398 ?_
        refine lv_lor hx hb dL_law_399 ?_
        refine lv_aload_n hx hb dL_law_400 rfl (lv_at hl 3 rfl) ?_
        refine lv_iload_n hx hb dL_law_401 rfl (lv_at hl 0 rfl) ?_
        refine lv_bipush (v := 6) hx hb dL_law_402 (by decide) ?_
        refine lv_iadd hx hb dL_law_404 ?_
        refine lv_topi (fun x_82 ex_82 => ?_)
        have ix_82 : x_82.toInt = i.toInt + 6 := ic_add ex_82 rfl kI_6 (by omega) (by omega)
        refine va_sld (i := x_82) hx hb hX hbl hbA hH.2.2 (vp_in_iff.mpr ⟨by omega, by omega⟩) dL_law_405 ?_
        rw [show x_82.toNatClampNeg = i.toNatClampNeg + 6 from by have := ic_clN (rfl : x_82.toInt = _) (by omega); have := ic_clN (rfl : i.toInt = _) (by omega); omega]
        refine lv_aload_n hx hb dL_law_406 rfl (lv_at hl 3 rfl) ?_
        refine lv_iload_n hx hb dL_law_407 rfl (lv_at hl 0 rfl) ?_
        refine lv_bipush (v := 7) hx hb dL_law_408 (by decide) ?_
        refine lv_iadd hx hb dL_law_410 ?_
        refine lv_topi (fun x_83 ex_83 => ?_)
        have ix_83 : x_83.toInt = i.toInt + 7 := ic_add ex_83 rfl kI_7 (by omega) (by omega)
        refine va_sld (i := x_83) hx hb hX hbl hbA hH.2.2 (vp_in_iff.mpr ⟨by omega, by omega⟩) dL_law_411 ?_
        rw [show x_83.toNatClampNeg = i.toNatClampNeg + 7 from by have := ic_clN (rfl : x_83.toInt = _) (by omega); have := ic_clN (rfl : i.toInt = _) (by omega); omega]
        refine lv_aload_n hx hb dL_law_412 rfl (lv_at hl 3 rfl) ?_
        refine lv_iload_n hx hb dL_law_413 rfl (lv_at hl 0 rfl) ?_
        refine lv_bipush (v := 8) hx hb dL_law_414 (by decide) ?_
        refine lv_iadd hx hb dL_law_416 ?_
        refine lv_topi (fun x_84 ex_84 => ?_)
        have ix_84 : x_84.toInt = i.toInt + 8 := ic_add ex_84 rfl kI_8 (by omega) (by omega)
        refine va_sld (i := x_84) hx hb hX hbl hbA hH.2.2 (vp_in_iff.mpr ⟨by omega, by omega⟩) dL_law_417 ?_
        rw [show x_84.toNatClampNeg = i.toNatClampNeg + 8 from by have := ic_clN (rfl : x_84.toInt = _) (by omega); have := ic_clN (rfl : i.toInt = _) (by omega); omega]
        obtain ⟨_, _, _, _, _, _, _, _, _, _, F_88, -⟩ : okM0 h n (f_74 (h 0)) := hIM.1 0 (by decide)
        refine m_goi hH (va_runV (As := [.int (xs (i.toNatClampNeg + 1)), .int (xs (i.toNatClampNeg + 2)), .int (xs (i.toNatClampNeg + 3)), .long ((((xs (i.toNatClampNeg + 4)).toInt64) <<< ((32 : Int32).toInt64 &&& 63)) ||| (((xs (i.toNatClampNeg + 5)).toInt64) &&& 4294967295)), .int (xs (i.toNatClampNeg + 6)), .int (xs (i.toNatClampNeg + 7)), .int (xs (i.toNatClampNeg + 8))]) (rest := []) ⟨hx, hb, hml, hown, hts⟩ (c_X6_act l G h n T2 z A f_74 hIM (xs (i.toNatClampNeg + 1)) (xs (i.toNatClampNeg + 2)) (xs (i.toNatClampNeg + 3)) ((((xs (i.toNatClampNeg + 4)).toInt64) <<< ((32 : Int32).toInt64 &&& 63)) ||| (((xs (i.toNatClampNeg + 5)).toInt64) &&& 4294967295)) (xs (i.toNatClampNeg + 6)) (xs (i.toNatClampNeg + 7)) (xs (i.toNatClampNeg + 8))) (cwV 7 hts gL_law_X6_act rfl rfl rfl (by decide +kernel) ⟨Nat.le_of_ble_eq_true rfl, Nat.le_of_ble_eq_true rfl⟩) (m_preV (ci := 6) hC hH F_88 rfl) rfl rfl hl.1 rfl (lv_room (Nat.le_of_ble_eq_true rfl)) dL_law_418 ⟨by show _ ≤ 600000; omega, by show _ ≤ 7302250; omega⟩) (fun r_85 rho_87 f_86 H locs hw hH => ?_)
        obtain ⟨hfr_, ho2_⟩ := hw
        have hfr_ : frM h f_74 f_86 := hfr_
        try dsimp only at ho2_
        obtain ⟨z_2, A_2, er_, hIC, hIM⟩ := join_act ho1_ ho2_ (fun _ _ _ _ q_ => q_.ext (keepC1 hsep hfr_) (keepC2 hro hfr_))
        refine lv_pop hx hb dL_law_421 rfl ?_
        refine lv_goto (tgt := 857) hx hb dL_law_422 (by decide) ?_
        obtain ⟨x_89, ex_89⟩ : ∃ y : Int32, y = i + 9 := ⟨_, rfl⟩
        have ix_89 : x_89.toInt = i.toInt + 9 := ic_add ex_89 rfl kI_9 (by omega) (by omega)
        refine lv_iinc (v := x_89) (lv' := [(3, .int x_89), (2, .ref (h 0)), (1, .ref (k 0)), (0, .ref b)]) hx hb dL_law_857 hl (k := 0) rfl (by rw [ex_89]; rfl) (by decide) rfl (fun ls hl => ?_)
        refine lv_goto (tgt := 18) hx hb dL_law_860 (by decide) ?_
        exact ih_ x_89 f_86 rho_75 n T T2 z_2 A_2 st (cl_ + 1 + 0) (sl_ + 6 + 0) (by omega) (by omega) hIC hIM hro (by omega) (by omega) (by omega) _ _ _ hH (lv_sub hl [0, 1, 2, 3] rfl)
      · skip
        have jk_4 : x_3.toInt = 5 := hk_4
        refine lv_tableIn (off := 392) (tgt := 425) hx hb dL_law_33 (by rw [jk_4]; decide) (by rw [jk_4]; decide) (by rw [jk_4]; rfl) (by decide) ?_
        refine lv_aload_n hx hb dL_law_425 rfl (lv_at hl 2 rfl) ?_
        refine lv_aload_n hx hb dL_law_426 rfl (lv_at hl 3 rfl) ?_
        refine lv_iload_n hx hb dL_law_427 rfl (lv_at hl 0 rfl) ?_
        refine lv_iconst (v := 1) hx hb dL_law_428 (by decide) ?_
        refine lv_iadd hx hb dL_law_429 ?_
        refine lv_topi (fun x_90 ex_90 => ?_)
        have ix_90 : x_90.toInt = i.toInt + 1 := ic_add ex_90 rfl kI_1 (by omega) (by omega)
        refine va_sld (i := x_90) hx hb hX hbl hbA hH.2.2 (vp_in_iff.mpr ⟨by omega, by omega⟩) dL_law_430 ?_
        rw [show x_90.toNatClampNeg = i.toNatClampNeg + 1 from by have := ic_clN (rfl : x_90.toInt = _) (by omega); have := ic_clN (rfl : i.toInt = _) (by omega); omega]
        obtain ⟨_, _, _, _, _, _, F_94, -⟩ : okLS k n (f (k 0)) := hIC.ls
        refine m_goi hH (va_runV (As := [.int (xs (i.toNatClampNeg + 1))]) (rest := []) ⟨hx, hb, hml, hown, hts⟩ (c_X5_clear l G k rho n T z st f hIC (xs (i.toNatClampNeg + 1))) (cwV 1 hts gL_law_X5_clear rfl rfl rfl (by decide +kernel) ⟨Nat.le_of_ble_eq_true rfl, Nat.le_of_ble_eq_true rfl⟩) (m_preV (ci := 5) hC hH F_94 rfl) rfl rfl hl.1 rfl (lv_room (Nat.le_of_ble_eq_true rfl)) dL_law_431 ⟨by show _ ≤ 600000; omega, by show _ ≤ 7302250; omega⟩) (fun r_91 rho_93 f_92 H locs hw hH => ?_)
        obtain ⟨hfr_, hu_, ho1_⟩ := hw
        have hfr_ : frC k rho f rho f_92 := hfr_
        have hkm_ := keepM hIM hjk hsep hro hfr_
        have hIM : IM G h n T2 z A f_92 := hIM.ext hkm_.1
        have hro := hkm_.2
        try dsimp only at ho1_
        refine lv_pop hx hb dL_law_434 rfl ?_
        refine lv_aload_n hx hb dL_law_435 rfl (lv_at hl 1 rfl) ?_
        refine lv_aload_n hx hb dL_law_436 rfl (lv_at hl 3 rfl) ?_
        refine lv_iload_n hx hb dL_law_437 rfl (lv_at hl 0 rfl) ?_
        refine lv_iconst (v := 1) hx hb dL_law_438 (by decide) ?_
        refine lv_iadd hx hb dL_law_439 ?_
        refine lv_topi (fun x_95 ex_95 => ?_)
        have ix_95 : x_95.toInt = i.toInt + 1 := ic_add ex_95 rfl kI_1 (by omega) (by omega)
        refine va_sld (i := x_95) hx hb hX hbl hbA hH.2.2 (vp_in_iff.mpr ⟨by omega, by omega⟩) dL_law_440 ?_
        rw [show x_95.toNatClampNeg = i.toNatClampNeg + 1 from by have := ic_clN (rfl : x_95.toInt = _) (by omega); have := ic_clN (rfl : i.toInt = _) (by omega); omega]
        obtain ⟨_, _, _, _, _, _, _, _, _, _, F_99, -⟩ : okM0 h n (f_92 (h 0)) := hIM.1 0 (by decide)
        refine m_goi hH (va_runV (As := [.int (xs (i.toNatClampNeg + 1))]) (rest := []) ⟨hx, hb, hml, hown, hts⟩ (c_X6_clear l G h n T2 z A f_92 hIM (xs (i.toNatClampNeg + 1))) (cwV 1 hts gL_law_X6_clear rfl rfl rfl (by decide +kernel) ⟨Nat.le_of_ble_eq_true rfl, Nat.le_of_ble_eq_true rfl⟩) (m_preV (ci := 6) hC hH F_99 rfl) rfl rfl hl.1 rfl (lv_room (Nat.le_of_ble_eq_true rfl)) dL_law_441 ⟨by show _ ≤ 600000; omega, by show _ ≤ 7302250; omega⟩) (fun r_96 rho_98 f_97 H locs hw hH => ?_)
        obtain ⟨hfr_, ho2_⟩ := hw
        have hfr_ : frM h f_92 f_97 := hfr_
        try dsimp only at ho2_
        obtain ⟨z_2, A_2, er_, hIC, hIM⟩ := join_clr ho1_ ho2_ (fun _ _ _ _ q_ => q_.ext (keepC1 hsep hfr_) (keepC2 hro hfr_))
        refine lv_pop hx hb dL_law_444 rfl ?_
        refine lv_goto (tgt := 857) hx hb dL_law_445 (by decide) ?_
        obtain ⟨x_100, ex_100⟩ : ∃ y : Int32, y = i + 9 := ⟨_, rfl⟩
        have ix_100 : x_100.toInt = i.toInt + 9 := ic_add ex_100 rfl kI_9 (by omega) (by omega)
        refine lv_iinc (v := x_100) (lv' := [(3, .int x_100), (2, .ref (h 0)), (1, .ref (k 0)), (0, .ref b)]) hx hb dL_law_857 hl (k := 0) rfl (by rw [ex_100]; rfl) (by decide) rfl (fun ls hl => ?_)
        refine lv_goto (tgt := 18) hx hb dL_law_860 (by decide) ?_
        exact ih_ x_100 f_97 rho n T T2 z_2 A_2 st (cl_ + 0 + 0) (sl_ + 0 + 0) (by omega) (by omega) hIC hIM hro (by omega) (by omega) (by omega) _ _ _ hH (lv_sub hl [0, 1, 2, 3] rfl)
      · skip
        have jk_4 : x_3.toInt = 6 := hk_4
        refine lv_tableIn (off := 415) (tgt := 448) hx hb dL_law_33 (by rw [jk_4]; decide) (by rw [jk_4]; decide) (by rw [jk_4]; rfl) (by decide) ?_
        refine lv_aload_n hx hb dL_law_448 rfl (lv_at hl 2 rfl) ?_
        refine lv_aload_n hx hb dL_law_449 rfl (lv_at hl 3 rfl) ?_
        refine lv_iload_n hx hb dL_law_450 rfl (lv_at hl 0 rfl) ?_
        refine lv_iconst (v := 1) hx hb dL_law_451 (by decide) ?_
        refine lv_iadd hx hb dL_law_452 ?_
        refine lv_topi (fun x_101 ex_101 => ?_)
        have ix_101 : x_101.toInt = i.toInt + 1 := ic_add ex_101 rfl kI_1 (by omega) (by omega)
        refine va_sld (i := x_101) hx hb hX hbl hbA hH.2.2 (vp_in_iff.mpr ⟨by omega, by omega⟩) dL_law_453 ?_
        rw [show x_101.toNatClampNeg = i.toNatClampNeg + 1 from by have := ic_clN (rfl : x_101.toInt = _) (by omega); have := ic_clN (rfl : i.toInt = _) (by omega); omega]
        refine lv_aload_n hx hb dL_law_454 rfl (lv_at hl 3 rfl) ?_
        refine lv_iload_n hx hb dL_law_455 rfl (lv_at hl 0 rfl) ?_
        refine lv_iconst (v := 2) hx hb dL_law_456 (by decide) ?_
        refine lv_iadd hx hb dL_law_457 ?_
        refine lv_topi (fun x_102 ex_102 => ?_)
        have ix_102 : x_102.toInt = i.toInt + 2 := ic_add ex_102 rfl kI_2 (by omega) (by omega)
        refine va_sld (i := x_102) hx hb hX hbl hbA hH.2.2 (vp_in_iff.mpr ⟨by omega, by omega⟩) dL_law_458 ?_
        rw [show x_102.toNatClampNeg = i.toNatClampNeg + 2 from by have := ic_clN (rfl : x_102.toInt = _) (by omega); have := ic_clN (rfl : i.toInt = _) (by omega); omega]
        refine lv_aload_n hx hb dL_law_459 rfl (lv_at hl 3 rfl) ?_
        refine lv_iload_n hx hb dL_law_460 rfl (lv_at hl 0 rfl) ?_
        refine lv_iconst (v := 3) hx hb dL_law_461 (by decide) ?_
        refine lv_iadd hx hb dL_law_462 ?_
        refine lv_topi (fun x_103 ex_103 => ?_)
        have ix_103 : x_103.toInt = i.toInt + 3 := ic_add ex_103 rfl kI_3 (by omega) (by omega)
        refine va_sld (i := x_103) hx hb hX hbl hbA hH.2.2 (vp_in_iff.mpr ⟨by omega, by omega⟩) dL_law_463 ?_
        rw [show x_103.toNatClampNeg = i.toNatClampNeg + 3 from by have := ic_clN (rfl : x_103.toInt = _) (by omega); have := ic_clN (rfl : i.toInt = _) (by omega); omega]
        refine lv_i2l hx hb dL_law_464 rfl ?_
        refine lv_bipush (v := 32) hx hb dL_law_465 (by decide) ?_
        refine lv_lshl hx hb dL_law_467 rfl ?_
        refine lv_aload_n hx hb dL_law_468 rfl (lv_at hl 3 rfl) ?_
        refine lv_iload_n hx hb dL_law_469 rfl (lv_at hl 0 rfl) ?_
        refine lv_iconst (v := 4) hx hb dL_law_470 (by decide) ?_
        refine lv_iadd hx hb dL_law_471 ?_
        refine lv_topi (fun x_104 ex_104 => ?_)
        have ix_104 : x_104.toInt = i.toInt + 4 := ic_add ex_104 rfl kI_4 (by omega) (by omega)
        refine va_sld (i := x_104) hx hb hX hbl hbA hH.2.2 (vp_in_iff.mpr ⟨by omega, by omega⟩) dL_law_472 ?_
        rw [show x_104.toNatClampNeg = i.toNatClampNeg + 4 from by have := ic_clN (rfl : x_104.toInt = _) (by omega); have := ic_clN (rfl : i.toInt = _) (by omega); omega]
        refine lv_i2l hx hb dL_law_473 rfl ?_
        refine lv_ldc2 (v := 4294967295) hx hb hown (hts (.constantLong RL 18 (4294967295)) (by decide +kernel)) dL_law_474 ?_
        refine lv_land hx hb dL_law_477 ?_
        refine lv_lor hx hb dL_law_478 ?_
        obtain ⟨_, _, _, _, _, _, F_108, -⟩ : okLS k n (f (k 0)) := hIC.ls
        refine m_goi hH (va_runV (As := [.int (xs (i.toNatClampNeg + 1)), .int (xs (i.toNatClampNeg + 2)), .long ((((xs (i.toNatClampNeg + 3)).toInt64) <<< ((32 : Int32).toInt64 &&& 63)) ||| (((xs (i.toNatClampNeg + 4)).toInt64) &&& 4294967295))]) (rest := []) ⟨hx, hb, hml, hown, hts⟩ (c_X5_call l G k rho n T z st f hIC (xs (i.toNatClampNeg + 1)) (xs (i.toNatClampNeg + 2)) ((((xs (i.toNatClampNeg + 3)).toInt64) <<< ((32 : Int32).toInt64 &&& 63)) ||| (((xs (i.toNatClampNeg + 4)).toInt64) &&& 4294967295))) (cwV 3 hts gL_law_X5_call rfl rfl rfl (by decide +kernel) ⟨Nat.le_of_ble_eq_true rfl, Nat.le_of_ble_eq_true rfl⟩) (m_preV (ci := 5) hC hH F_108 rfl) rfl rfl hl.1 rfl (lv_room (Nat.le_of_ble_eq_true rfl)) dL_law_479 ⟨by show _ ≤ 600000; omega, by show _ ≤ 7302250; omega⟩) (fun r_105 rho_107 f_106 H locs hw hH => ?_)
        obtain ⟨st2_, hIC, hfr_⟩ := hw
        have hIC : IC G k rho_107 n T z st2_ f_106 := hIC
        have hfr_ : frC k rho f rho_107 f_106 := hfr_
        have hkm_ := keepM hIM hjk hsep hro hfr_
        have hIM : IM G h n T2 z A f_106 := hIM.ext hkm_.1
        have hro := hkm_.2
        refine lv_pop hx hb dL_law_482 rfl ?_
        refine lv_aload_n hx hb dL_law_483 rfl (lv_at hl 1 rfl) ?_
        refine lv_aload_n hx hb dL_law_484 rfl (lv_at hl 3 rfl) ?_
        refine lv_iload_n hx hb dL_law_485 rfl (lv_at hl 0 rfl) ?_
        refine lv_iconst (v := 1) hx hb dL_law_486 (by decide) ?_
        refine lv_iadd hx hb dL_law_487 ?_
        refine lv_topi (fun x_109 ex_109 => ?_)
        have ix_109 : x_109.toInt = i.toInt + 1 := ic_add ex_109 rfl kI_1 (by omega) (by omega)
        refine va_sld (i := x_109) hx hb hX hbl hbA hH.2.2 (vp_in_iff.mpr ⟨by omega, by omega⟩) dL_law_488 ?_
        rw [show x_109.toNatClampNeg = i.toNatClampNeg + 1 from by have := ic_clN (rfl : x_109.toInt = _) (by omega); have := ic_clN (rfl : i.toInt = _) (by omega); omega]
        refine lv_aload_n hx hb dL_law_489 rfl (lv_at hl 3 rfl) ?_
        refine lv_iload_n hx hb dL_law_490 rfl (lv_at hl 0 rfl) ?_
        refine lv_iconst (v := 2) hx hb dL_law_491 (by decide) ?_
        refine lv_iadd hx hb dL_law_492 ?_
        refine lv_topi (fun x_110 ex_110 => ?_)
        have ix_110 : x_110.toInt = i.toInt + 2 := ic_add ex_110 rfl kI_2 (by omega) (by omega)
        refine va_sld (i := x_110) hx hb hX hbl hbA hH.2.2 (vp_in_iff.mpr ⟨by omega, by omega⟩) dL_law_493 ?_
        rw [show x_110.toNatClampNeg = i.toNatClampNeg + 2 from by have := ic_clN (rfl : x_110.toInt = _) (by omega); have := ic_clN (rfl : i.toInt = _) (by omega); omega]
        refine lv_aload_n hx hb dL_law_494 rfl (lv_at hl 3 rfl) ?_
        refine lv_iload_n hx hb dL_law_495 rfl (lv_at hl 0 rfl) ?_
        refine lv_iconst (v := 3) hx hb dL_law_496 (by decide) ?_
        refine lv_iadd hx hb dL_law_497 ?_
        refine lv_topi (fun x_111 ex_111 => ?_)
        have ix_111 : x_111.toInt = i.toInt + 3 := ic_add ex_111 rfl kI_3 (by omega) (by omega)
        refine va_sld (i := x_111) hx hb hX hbl hbA hH.2.2 (vp_in_iff.mpr ⟨by omega, by omega⟩) dL_law_498 ?_
        rw [show x_111.toNatClampNeg = i.toNatClampNeg + 3 from by have := ic_clN (rfl : x_111.toInt = _) (by omega); have := ic_clN (rfl : i.toInt = _) (by omega); omega]
        refine lv_i2l hx hb dL_law_499 rfl ?_
        refine lv_bipush (v := 32) hx hb dL_law_500 (by decide) ?_
        refine lv_lshl hx hb dL_law_502 rfl ?_
        refine lv_aload_n hx hb dL_law_503 rfl (lv_at hl 3 rfl) ?_
        refine lv_iload_n hx hb dL_law_504 rfl (lv_at hl 0 rfl) ?_
        refine lv_iconst (v := 4) hx hb dL_law_505 (by decide) ?_
        refine lv_iadd hx hb dL_law_506 ?_
        refine lv_topi (fun x_112 ex_112 => ?_)
        have ix_112 : x_112.toInt = i.toInt + 4 := ic_add ex_112 rfl kI_4 (by omega) (by omega)
        refine va_sld (i := x_112) hx hb hX hbl hbA hH.2.2 (vp_in_iff.mpr ⟨by omega, by omega⟩) dL_law_507 ?_
        rw [show x_112.toNatClampNeg = i.toNatClampNeg + 4 from by have := ic_clN (rfl : x_112.toInt = _) (by omega); have := ic_clN (rfl : i.toInt = _) (by omega); omega]
        refine lv_i2l hx hb dL_law_508 rfl ?_
        refine lv_ldc2 (v := 4294967295) hx hb hown (hts (.constantLong RL 18 (4294967295)) (by decide +kernel)) dL_law_509 ?_
        refine lv_land hx hb dL_law_512 ?_
        refine lv_lor hx hb dL_law_513 ?_
        obtain ⟨_, _, _, _, _, _, _, _, _, _, F_116, -⟩ : okM0 h n (f_106 (h 0)) := hIM.1 0 (by decide)
        refine m_goi hH (va_runV (As := [.int (xs (i.toNatClampNeg + 1)), .int (xs (i.toNatClampNeg + 2)), .long ((((xs (i.toNatClampNeg + 3)).toInt64) <<< ((32 : Int32).toInt64 &&& 63)) ||| (((xs (i.toNatClampNeg + 4)).toInt64) &&& 4294967295))]) (rest := []) ⟨hx, hb, hml, hown, hts⟩ (c_X6_call l G h n T2 z A f_106 hIM (xs (i.toNatClampNeg + 1)) (xs (i.toNatClampNeg + 2)) ((((xs (i.toNatClampNeg + 3)).toInt64) <<< ((32 : Int32).toInt64 &&& 63)) ||| (((xs (i.toNatClampNeg + 4)).toInt64) &&& 4294967295))) (cwV 3 hts gL_law_X6_call rfl rfl rfl (by decide +kernel) ⟨Nat.le_of_ble_eq_true rfl, Nat.le_of_ble_eq_true rfl⟩) (m_preV (ci := 6) hC hH F_116 rfl) rfl rfl hl.1 rfl (lv_room (Nat.le_of_ble_eq_true rfl)) dL_law_514 ⟨by show _ ≤ 600000; omega, by show _ ≤ 7302250; omega⟩) (fun r_113 rho_115 f_114 H locs hw hH => ?_)
        obtain ⟨hIM, hfr_⟩ := hw
        have hIM : IM G h n T2 z A f_114 := hIM
        have hfr_ : frM h f_106 f_114 := hfr_
        have hIC : IC G k rho_107 n T z st2_ f_114 := hIC.ext (keepC1 hsep hfr_) (keepC2 hro hfr_)
        refine lv_pop hx hb dL_law_517 rfl ?_
        refine lv_goto (tgt := 857) hx hb dL_law_518 (by decide) ?_
        obtain ⟨x_117, ex_117⟩ : ∃ y : Int32, y = i + 9 := ⟨_, rfl⟩
        have ix_117 : x_117.toInt = i.toInt + 9 := ic_add ex_117 rfl kI_9 (by omega) (by omega)
        refine lv_iinc (v := x_117) (lv' := [(3, .int x_117), (2, .ref (h 0)), (1, .ref (k 0)), (0, .ref b)]) hx hb dL_law_857 hl (k := 0) rfl (by rw [ex_117]; rfl) (by decide) rfl (fun ls hl => ?_)
        refine lv_goto (tgt := 18) hx hb dL_law_860 (by decide) ?_
        exact ih_ x_117 f_114 rho_107 n T T2 z A st2_ (cl_ + 150 + 0) (sl_ + 1450 + 0) (by omega) (by omega) hIC hIM hro (by omega) (by omega) (by omega) _ _ _ hH (lv_sub hl [0, 1, 2, 3] rfl)
      · skip
        have jk_4 : x_3.toInt = 7 := hk_4
        refine lv_tableIn (off := 488) (tgt := 521) hx hb dL_law_33 (by rw [jk_4]; decide) (by rw [jk_4]; decide) (by rw [jk_4]; rfl) (by decide) ?_
        refine lv_aload_n hx hb dL_law_521 rfl (lv_at hl 2 rfl) ?_
        obtain ⟨_, _, _, _, _, _, F_121, -⟩ : okLS k n (f (k 0)) := hIC.ls
        refine m_gol hH (va_runV (As := []) (rest := []) ⟨hx, hb, hml, hown, hts⟩ (c_X5_gave l G k rho n T z st f hIC) (cwV 0 hts gL_law_X5_gave rfl rfl rfl (by decide +kernel) ⟨Nat.le_of_ble_eq_true rfl, Nat.le_of_ble_eq_true rfl⟩) (m_preV (ci := 5) hC hH F_121 rfl) rfl rfl hl.1 rfl (lv_room (Nat.le_of_ble_eq_true rfl)) dL_law_522 ⟨by show _ ≤ 600000; omega, by show _ ≤ 7302250; omega⟩) (fun r_118 rho_120 f_119 H locs hw hH => ?_)
        have hu_ : f_119 = f := hw
        rw [hu_] at hH
        refine lv_pop2_2 hx hb dL_law_525 rfl ?_
        refine lv_aload_n hx hb dL_law_526 rfl (lv_at hl 1 rfl) ?_
        obtain ⟨_, _, _, _, _, _, _, _, _, _, F_125, -⟩ : okM0 h n (f (h 0)) := hIM.1 0 (by decide)
        refine m_gol hH (va_runV (As := []) (rest := []) ⟨hx, hb, hml, hown, hts⟩ (c_X6_gave l G h n T2 z A f hIM) (cwV 0 hts gL_law_X6_gave rfl rfl rfl (by decide +kernel) ⟨Nat.le_of_ble_eq_true rfl, Nat.le_of_ble_eq_true rfl⟩) (m_preV (ci := 6) hC hH F_125 rfl) rfl rfl hl.1 rfl (lv_room (Nat.le_of_ble_eq_true rfl)) dL_law_527 ⟨by show _ ≤ 600000; omega, by show _ ≤ 7302250; omega⟩) (fun r_122 rho_124 f_123 H locs hw hH => ?_)
        have hu_ : f_123 = f := hw
        rw [hu_] at hH
        refine lv_pop2_2 hx hb dL_law_530 rfl ?_
        refine lv_goto (tgt := 857) hx hb dL_law_531 (by decide) ?_
        obtain ⟨x_126, ex_126⟩ : ∃ y : Int32, y = i + 9 := ⟨_, rfl⟩
        have ix_126 : x_126.toInt = i.toInt + 9 := ic_add ex_126 rfl kI_9 (by omega) (by omega)
        refine lv_iinc (v := x_126) (lv' := [(3, .int x_126), (2, .ref (h 0)), (1, .ref (k 0)), (0, .ref b)]) hx hb dL_law_857 hl (k := 0) rfl (by rw [ex_126]; rfl) (by decide) rfl (fun ls hl => ?_)
        refine lv_goto (tgt := 18) hx hb dL_law_860 (by decide) ?_
        exact ih_ x_126 f rho n T T2 z A st (cl_ + 0 + 0) (sl_ + 0 + 0) (by omega) (by omega) hIC hIM hro (by omega) (by omega) (by omega) _ _ _ hH (lv_sub hl [0, 1, 2, 3] rfl)
      · skip
        have jk_4 : x_3.toInt = 8 := hk_4
        refine lv_tableIn (off := 501) (tgt := 534) hx hb dL_law_33 (by rw [jk_4]; decide) (by rw [jk_4]; decide) (by rw [jk_4]; rfl) (by decide) ?_
        refine lv_aload_n hx hb dL_law_534 rfl (lv_at hl 2 rfl) ?_
        obtain ⟨_, _, _, _, _, _, F_130, -⟩ : okLS k n (f (k 0)) := hIC.ls
        refine m_goi hH (va_runV (As := []) (rest := []) ⟨hx, hb, hml, hown, hts⟩ (c_X5_where l G k rho n T z st f hIC) (cwV 0 hts gL_law_X5_where rfl rfl rfl (by decide +kernel) ⟨Nat.le_of_ble_eq_true rfl, Nat.le_of_ble_eq_true rfl⟩) (m_preV (ci := 5) hC hH F_130 rfl) rfl rfl hl.1 rfl (lv_room (Nat.le_of_ble_eq_true rfl)) dL_law_535 ⟨by show _ ≤ 600000; omega, by show _ ≤ 7302250; omega⟩) (fun r_127 rho_129 f_128 H locs hw hH => ?_)
        have hu_ : f_128 = f := hw
        rw [hu_] at hH
        refine lv_pop hx hb dL_law_538 rfl ?_
        refine lv_aload_n hx hb dL_law_539 rfl (lv_at hl 1 rfl) ?_
        obtain ⟨_, _, _, _, _, _, _, _, _, _, F_134, -⟩ : okM0 h n (f (h 0)) := hIM.1 0 (by decide)
        refine m_goi hH (va_runV (As := []) (rest := []) ⟨hx, hb, hml, hown, hts⟩ (c_X6_where l G h n T2 z A f hIM) (cwV 0 hts gL_law_X6_where rfl rfl rfl (by decide +kernel) ⟨Nat.le_of_ble_eq_true rfl, Nat.le_of_ble_eq_true rfl⟩) (m_preV (ci := 6) hC hH F_134 rfl) rfl rfl hl.1 rfl (lv_room (Nat.le_of_ble_eq_true rfl)) dL_law_540 ⟨by show _ ≤ 600000; omega, by show _ ≤ 7302250; omega⟩) (fun r_131 rho_133 f_132 H locs hw hH => ?_)
        have hu_ : f_132 = f := hw
        rw [hu_] at hH
        refine lv_pop hx hb dL_law_543 rfl ?_
        refine lv_goto (tgt := 857) hx hb dL_law_544 (by decide) ?_
        obtain ⟨x_135, ex_135⟩ : ∃ y : Int32, y = i + 9 := ⟨_, rfl⟩
        have ix_135 : x_135.toInt = i.toInt + 9 := ic_add ex_135 rfl kI_9 (by omega) (by omega)
        refine lv_iinc (v := x_135) (lv' := [(3, .int x_135), (2, .ref (h 0)), (1, .ref (k 0)), (0, .ref b)]) hx hb dL_law_857 hl (k := 0) rfl (by rw [ex_135]; rfl) (by decide) rfl (fun ls hl => ?_)
        refine lv_goto (tgt := 18) hx hb dL_law_860 (by decide) ?_
        exact ih_ x_135 f rho n T T2 z A st (cl_ + 0 + 0) (sl_ + 0 + 0) (by omega) (by omega) hIC hIM hro (by omega) (by omega) (by omega) _ _ _ hH (lv_sub hl [0, 1, 2, 3] rfl)
      · skip
        have jk_4 : x_3.toInt = 9 := hk_4
        refine lv_tableIn (off := 514) (tgt := 547) hx hb dL_law_33 (by rw [jk_4]; decide) (by rw [jk_4]; decide) (by rw [jk_4]; rfl) (by decide) ?_
        refine lv_aload_n hx hb dL_law_547 rfl (lv_at hl 2 rfl) ?_
        refine lv_aload_n hx hb dL_law_548 rfl (lv_at hl 3 rfl) ?_
        refine lv_iload_n hx hb dL_law_549 rfl (lv_at hl 0 rfl) ?_
        refine lv_iconst (v := 1) hx hb dL_law_550 (by decide) ?_
        refine lv_iadd hx hb dL_law_551 ?_
        refine lv_topi (fun x_136 ex_136 => ?_)
        have ix_136 : x_136.toInt = i.toInt + 1 := ic_add ex_136 rfl kI_1 (by omega) (by omega)
        refine va_sld (i := x_136) hx hb hX hbl hbA hH.2.2 (vp_in_iff.mpr ⟨by omega, by omega⟩) dL_law_552 ?_
        rw [show x_136.toNatClampNeg = i.toNatClampNeg + 1 from by have := ic_clN (rfl : x_136.toInt = _) (by omega); have := ic_clN (rfl : i.toInt = _) (by omega); omega]
        refine lv_aload_n hx hb dL_law_553 rfl (lv_at hl 3 rfl) ?_
        refine lv_iload_n hx hb dL_law_554 rfl (lv_at hl 0 rfl) ?_
        refine lv_iconst (v := 2) hx hb dL_law_555 (by decide) ?_
        refine lv_iadd hx hb dL_law_556 ?_
        refine lv_topi (fun x_137 ex_137 => ?_)
        have ix_137 : x_137.toInt = i.toInt + 2 := ic_add ex_137 rfl kI_2 (by omega) (by omega)
        refine va_sld (i := x_137) hx hb hX hbl hbA hH.2.2 (vp_in_iff.mpr ⟨by omega, by omega⟩) dL_law_557 ?_
        rw [show x_137.toNatClampNeg = i.toNatClampNeg + 2 from by have := ic_clN (rfl : x_137.toInt = _) (by omega); have := ic_clN (rfl : i.toInt = _) (by omega); omega]
        obtain ⟨_, _, _, _, _, _, F_141, -⟩ : okLS k n (f (k 0)) := hIC.ls
        refine m_goi hH (va_runV (As := [.int (xs (i.toNatClampNeg + 1)), .int (xs (i.toNatClampNeg + 2))]) (rest := []) ⟨hx, hb, hml, hown, hts⟩ (c_X5_touched l G k rho n T z st f hIC (xs (i.toNatClampNeg + 1)) (xs (i.toNatClampNeg + 2))) (cwV 2 hts gL_law_X5_touched rfl rfl rfl (by decide +kernel) ⟨Nat.le_of_ble_eq_true rfl, Nat.le_of_ble_eq_true rfl⟩) (m_preV (ci := 5) hC hH F_141 rfl) rfl rfl hl.1 rfl (lv_room (Nat.le_of_ble_eq_true rfl)) dL_law_558 ⟨by show _ ≤ 600000; omega, by show _ ≤ 7302250; omega⟩) (fun r_138 rho_140 f_139 H locs hw hH => ?_)
        have hu_ : f_139 = f := hw
        rw [hu_] at hH
        refine lv_pop hx hb dL_law_561 rfl ?_
        refine lv_aload_n hx hb dL_law_562 rfl (lv_at hl 1 rfl) ?_
        refine lv_aload_n hx hb dL_law_563 rfl (lv_at hl 3 rfl) ?_
        refine lv_iload_n hx hb dL_law_564 rfl (lv_at hl 0 rfl) ?_
        refine lv_iconst (v := 1) hx hb dL_law_565 (by decide) ?_
        refine lv_iadd hx hb dL_law_566 ?_
        refine lv_topi (fun x_142 ex_142 => ?_)
        have ix_142 : x_142.toInt = i.toInt + 1 := ic_add ex_142 rfl kI_1 (by omega) (by omega)
        refine va_sld (i := x_142) hx hb hX hbl hbA hH.2.2 (vp_in_iff.mpr ⟨by omega, by omega⟩) dL_law_567 ?_
        rw [show x_142.toNatClampNeg = i.toNatClampNeg + 1 from by have := ic_clN (rfl : x_142.toInt = _) (by omega); have := ic_clN (rfl : i.toInt = _) (by omega); omega]
        refine lv_aload_n hx hb dL_law_568 rfl (lv_at hl 3 rfl) ?_
        refine lv_iload_n hx hb dL_law_569 rfl (lv_at hl 0 rfl) ?_
        refine lv_iconst (v := 2) hx hb dL_law_570 (by decide) ?_
        refine lv_iadd hx hb dL_law_571 ?_
        refine lv_topi (fun x_143 ex_143 => ?_)
        have ix_143 : x_143.toInt = i.toInt + 2 := ic_add ex_143 rfl kI_2 (by omega) (by omega)
        refine va_sld (i := x_143) hx hb hX hbl hbA hH.2.2 (vp_in_iff.mpr ⟨by omega, by omega⟩) dL_law_572 ?_
        rw [show x_143.toNatClampNeg = i.toNatClampNeg + 2 from by have := ic_clN (rfl : x_143.toInt = _) (by omega); have := ic_clN (rfl : i.toInt = _) (by omega); omega]
        obtain ⟨_, _, _, _, _, _, _, _, _, _, F_147, -⟩ : okM0 h n (f (h 0)) := hIM.1 0 (by decide)
        refine m_goi hH (va_runV (As := [.int (xs (i.toNatClampNeg + 1)), .int (xs (i.toNatClampNeg + 2))]) (rest := []) ⟨hx, hb, hml, hown, hts⟩ (c_X6_touched l G h n T2 z A f hIM (xs (i.toNatClampNeg + 1)) (xs (i.toNatClampNeg + 2))) (cwV 2 hts gL_law_X6_touched rfl rfl rfl (by decide +kernel) ⟨Nat.le_of_ble_eq_true rfl, Nat.le_of_ble_eq_true rfl⟩) (m_preV (ci := 6) hC hH F_147 rfl) rfl rfl hl.1 rfl (lv_room (Nat.le_of_ble_eq_true rfl)) dL_law_573 ⟨by show _ ≤ 600000; omega, by show _ ≤ 7302250; omega⟩) (fun r_144 rho_146 f_145 H locs hw hH => ?_)
        have hu_ : f_145 = f := hw
        rw [hu_] at hH
        refine lv_pop hx hb dL_law_576 rfl ?_
        refine lv_goto (tgt := 857) hx hb dL_law_577 (by decide) ?_
        obtain ⟨x_148, ex_148⟩ : ∃ y : Int32, y = i + 9 := ⟨_, rfl⟩
        have ix_148 : x_148.toInt = i.toInt + 9 := ic_add ex_148 rfl kI_9 (by omega) (by omega)
        refine lv_iinc (v := x_148) (lv' := [(3, .int x_148), (2, .ref (h 0)), (1, .ref (k 0)), (0, .ref b)]) hx hb dL_law_857 hl (k := 0) rfl (by rw [ex_148]; rfl) (by decide) rfl (fun ls hl => ?_)
        refine lv_goto (tgt := 18) hx hb dL_law_860 (by decide) ?_
        exact ih_ x_148 f rho n T T2 z A st (cl_ + 0 + 0) (sl_ + 0 + 0) (by omega) (by omega) hIC hIM hro (by omega) (by omega) (by omega) _ _ _ hH (lv_sub hl [0, 1, 2, 3] rfl)
      · skip
        have jk_4 : x_3.toInt = 10 := hk_4
        refine lv_tableIn (off := 547) (tgt := 580) hx hb dL_law_33 (by rw [jk_4]; decide) (by rw [jk_4]; decide) (by rw [jk_4]; rfl) (by decide) ?_
        refine lv_aload_n hx hb dL_law_580 rfl (lv_at hl 2 rfl) ?_
        refine lv_aload_n hx hb dL_law_581 rfl (lv_at hl 3 rfl) ?_
        refine lv_iload_n hx hb dL_law_582 rfl (lv_at hl 0 rfl) ?_
        refine lv_iconst (v := 1) hx hb dL_law_583 (by decide) ?_
        refine lv_iadd hx hb dL_law_584 ?_
        refine lv_topi (fun x_149 ex_149 => ?_)
        have ix_149 : x_149.toInt = i.toInt + 1 := ic_add ex_149 rfl kI_1 (by omega) (by omega)
        refine va_sld (i := x_149) hx hb hX hbl hbA hH.2.2 (vp_in_iff.mpr ⟨by omega, by omega⟩) dL_law_585 ?_
        rw [show x_149.toNatClampNeg = i.toNatClampNeg + 1 from by have := ic_clN (rfl : x_149.toInt = _) (by omega); have := ic_clN (rfl : i.toInt = _) (by omega); omega]
        obtain ⟨_, _, _, _, _, _, F_153, -⟩ : okLS k n (f (k 0)) := hIC.ls
        refine m_goi hH (va_runV (As := [.int (xs (i.toNatClampNeg + 1))]) (rest := []) ⟨hx, hb, hml, hown, hts⟩ (c_X5_written l G k rho n T z st f hIC (xs (i.toNatClampNeg + 1))) (cwV 1 hts gL_law_X5_written rfl rfl rfl (by decide +kernel) ⟨Nat.le_of_ble_eq_true rfl, Nat.le_of_ble_eq_true rfl⟩) (m_preV (ci := 5) hC hH F_153 rfl) rfl rfl hl.1 rfl (lv_room (Nat.le_of_ble_eq_true rfl)) dL_law_586 ⟨by show _ ≤ 600000; omega, by show _ ≤ 7302250; omega⟩) (fun r_150 rho_152 f_151 H locs hw hH => ?_)
        have hu_ : f_151 = f := hw
        rw [hu_] at hH
        refine lv_pop hx hb dL_law_589 rfl ?_
        refine lv_aload_n hx hb dL_law_590 rfl (lv_at hl 1 rfl) ?_
        refine lv_aload_n hx hb dL_law_591 rfl (lv_at hl 3 rfl) ?_
        refine lv_iload_n hx hb dL_law_592 rfl (lv_at hl 0 rfl) ?_
        refine lv_iconst (v := 1) hx hb dL_law_593 (by decide) ?_
        refine lv_iadd hx hb dL_law_594 ?_
        refine lv_topi (fun x_154 ex_154 => ?_)
        have ix_154 : x_154.toInt = i.toInt + 1 := ic_add ex_154 rfl kI_1 (by omega) (by omega)
        refine va_sld (i := x_154) hx hb hX hbl hbA hH.2.2 (vp_in_iff.mpr ⟨by omega, by omega⟩) dL_law_595 ?_
        rw [show x_154.toNatClampNeg = i.toNatClampNeg + 1 from by have := ic_clN (rfl : x_154.toInt = _) (by omega); have := ic_clN (rfl : i.toInt = _) (by omega); omega]
        obtain ⟨_, _, _, _, _, _, _, _, _, _, F_158, -⟩ : okM0 h n (f (h 0)) := hIM.1 0 (by decide)
        refine m_goi hH (va_runV (As := [.int (xs (i.toNatClampNeg + 1))]) (rest := []) ⟨hx, hb, hml, hown, hts⟩ (c_X6_written l G h n T2 z A f hIM (xs (i.toNatClampNeg + 1))) (cwV 1 hts gL_law_X6_written rfl rfl rfl (by decide +kernel) ⟨Nat.le_of_ble_eq_true rfl, Nat.le_of_ble_eq_true rfl⟩) (m_preV (ci := 6) hC hH F_158 rfl) rfl rfl hl.1 rfl (lv_room (Nat.le_of_ble_eq_true rfl)) dL_law_596 ⟨by show _ ≤ 600000; omega, by show _ ≤ 7302250; omega⟩) (fun r_155 rho_157 f_156 H locs hw hH => ?_)
        have hu_ : f_156 = f := hw
        rw [hu_] at hH
        refine lv_pop hx hb dL_law_599 rfl ?_
        refine lv_goto (tgt := 857) hx hb dL_law_600 (by decide) ?_
        obtain ⟨x_159, ex_159⟩ : ∃ y : Int32, y = i + 9 := ⟨_, rfl⟩
        have ix_159 : x_159.toInt = i.toInt + 9 := ic_add ex_159 rfl kI_9 (by omega) (by omega)
        refine lv_iinc (v := x_159) (lv' := [(3, .int x_159), (2, .ref (h 0)), (1, .ref (k 0)), (0, .ref b)]) hx hb dL_law_857 hl (k := 0) rfl (by rw [ex_159]; rfl) (by decide) rfl (fun ls hl => ?_)
        refine lv_goto (tgt := 18) hx hb dL_law_860 (by decide) ?_
        exact ih_ x_159 f rho n T T2 z A st (cl_ + 0 + 0) (sl_ + 0 + 0) (by omega) (by omega) hIC hIM hro (by omega) (by omega) (by omega) _ _ _ hH (lv_sub hl [0, 1, 2, 3] rfl)
      · skip
        have jk_4 : x_3.toInt = 11 := hk_4
        refine lv_tableIn (off := 570) (tgt := 603) hx hb dL_law_33 (by rw [jk_4]; decide) (by rw [jk_4]; decide) (by rw [jk_4]; rfl) (by decide) ?_
        refine lv_aload_n hx hb dL_law_603 rfl (lv_at hl 2 rfl) ?_
        refine lv_aload_n hx hb dL_law_604 rfl (lv_at hl 3 rfl) ?_
        refine lv_iload_n hx hb dL_law_605 rfl (lv_at hl 0 rfl) ?_
        refine lv_iconst (v := 1) hx hb dL_law_606 (by decide) ?_
        refine lv_iadd hx hb dL_law_607 ?_
        refine lv_topi (fun x_160 ex_160 => ?_)
        have ix_160 : x_160.toInt = i.toInt + 1 := ic_add ex_160 rfl kI_1 (by omega) (by omega)
        refine va_sld (i := x_160) hx hb hX hbl hbA hH.2.2 (vp_in_iff.mpr ⟨by omega, by omega⟩) dL_law_608 ?_
        rw [show x_160.toNatClampNeg = i.toNatClampNeg + 1 from by have := ic_clN (rfl : x_160.toInt = _) (by omega); have := ic_clN (rfl : i.toInt = _) (by omega); omega]
        obtain ⟨_, _, _, _, _, _, F_164, -⟩ : okLS k n (f (k 0)) := hIC.ls
        refine m_goi hH (va_runV (As := [.int (xs (i.toNatClampNeg + 1))]) (rest := []) ⟨hx, hb, hml, hown, hts⟩ (c_X5_loaded l G k rho n T z st f hIC (xs (i.toNatClampNeg + 1))) (cwV 1 hts gL_law_X5_loaded rfl rfl rfl (by decide +kernel) ⟨Nat.le_of_ble_eq_true rfl, Nat.le_of_ble_eq_true rfl⟩) (m_preV (ci := 5) hC hH F_164 rfl) rfl rfl hl.1 rfl (lv_room (Nat.le_of_ble_eq_true rfl)) dL_law_609 ⟨by show _ ≤ 600000; omega, by show _ ≤ 7302250; omega⟩) (fun r_161 rho_163 f_162 H locs hw hH => ?_)
        have hu_ : f_162 = f := hw
        rw [hu_] at hH
        refine lv_pop hx hb dL_law_612 rfl ?_
        refine lv_aload_n hx hb dL_law_613 rfl (lv_at hl 1 rfl) ?_
        refine lv_aload_n hx hb dL_law_614 rfl (lv_at hl 3 rfl) ?_
        refine lv_iload_n hx hb dL_law_615 rfl (lv_at hl 0 rfl) ?_
        refine lv_iconst (v := 1) hx hb dL_law_616 (by decide) ?_
        refine lv_iadd hx hb dL_law_617 ?_
        refine lv_topi (fun x_165 ex_165 => ?_)
        have ix_165 : x_165.toInt = i.toInt + 1 := ic_add ex_165 rfl kI_1 (by omega) (by omega)
        refine va_sld (i := x_165) hx hb hX hbl hbA hH.2.2 (vp_in_iff.mpr ⟨by omega, by omega⟩) dL_law_618 ?_
        rw [show x_165.toNatClampNeg = i.toNatClampNeg + 1 from by have := ic_clN (rfl : x_165.toInt = _) (by omega); have := ic_clN (rfl : i.toInt = _) (by omega); omega]
        obtain ⟨_, _, _, _, _, _, _, _, _, _, F_169, -⟩ : okM0 h n (f (h 0)) := hIM.1 0 (by decide)
        refine m_goi hH (va_runV (As := [.int (xs (i.toNatClampNeg + 1))]) (rest := []) ⟨hx, hb, hml, hown, hts⟩ (c_X6_loaded l G h n T2 z A f hIM (xs (i.toNatClampNeg + 1))) (cwV 1 hts gL_law_X6_loaded rfl rfl rfl (by decide +kernel) ⟨Nat.le_of_ble_eq_true rfl, Nat.le_of_ble_eq_true rfl⟩) (m_preV (ci := 6) hC hH F_169 rfl) rfl rfl hl.1 rfl (lv_room (Nat.le_of_ble_eq_true rfl)) dL_law_619 ⟨by show _ ≤ 600000; omega, by show _ ≤ 7302250; omega⟩) (fun r_166 rho_168 f_167 H locs hw hH => ?_)
        have hu_ : f_167 = f := hw
        rw [hu_] at hH
        refine lv_pop hx hb dL_law_622 rfl ?_
        refine lv_goto (tgt := 857) hx hb dL_law_623 (by decide) ?_
        obtain ⟨x_170, ex_170⟩ : ∃ y : Int32, y = i + 9 := ⟨_, rfl⟩
        have ix_170 : x_170.toInt = i.toInt + 9 := ic_add ex_170 rfl kI_9 (by omega) (by omega)
        refine lv_iinc (v := x_170) (lv' := [(3, .int x_170), (2, .ref (h 0)), (1, .ref (k 0)), (0, .ref b)]) hx hb dL_law_857 hl (k := 0) rfl (by rw [ex_170]; rfl) (by decide) rfl (fun ls hl => ?_)
        refine lv_goto (tgt := 18) hx hb dL_law_860 (by decide) ?_
        exact ih_ x_170 f rho n T T2 z A st (cl_ + 0 + 0) (sl_ + 0 + 0) (by omega) (by omega) hIC hIM hro (by omega) (by omega) (by omega) _ _ _ hH (lv_sub hl [0, 1, 2, 3] rfl)
      · skip
        have jk_4 : x_3.toInt = 12 := hk_4
        refine lv_tableIn (off := 593) (tgt := 626) hx hb dL_law_33 (by rw [jk_4]; decide) (by rw [jk_4]; decide) (by rw [jk_4]; rfl) (by decide) ?_
        refine lv_aload_n hx hb dL_law_626 rfl (lv_at hl 2 rfl) ?_
        refine lv_aload_n hx hb dL_law_627 rfl (lv_at hl 3 rfl) ?_
        refine lv_iload_n hx hb dL_law_628 rfl (lv_at hl 0 rfl) ?_
        refine lv_iconst (v := 1) hx hb dL_law_629 (by decide) ?_
        refine lv_iadd hx hb dL_law_630 ?_
        refine lv_topi (fun x_171 ex_171 => ?_)
        have ix_171 : x_171.toInt = i.toInt + 1 := ic_add ex_171 rfl kI_1 (by omega) (by omega)
        refine va_sld (i := x_171) hx hb hX hbl hbA hH.2.2 (vp_in_iff.mpr ⟨by omega, by omega⟩) dL_law_631 ?_
        rw [show x_171.toNatClampNeg = i.toNatClampNeg + 1 from by have := ic_clN (rfl : x_171.toInt = _) (by omega); have := ic_clN (rfl : i.toInt = _) (by omega); omega]
        obtain ⟨_, _, _, _, _, _, F_175, -⟩ : okLS k n (f (k 0)) := hIC.ls
        refine m_goi hH (va_runV (As := [.int (xs (i.toNatClampNeg + 1))]) (rest := []) ⟨hx, hb, hml, hown, hts⟩ (c_X5_cached l G k rho n T z st f hIC (xs (i.toNatClampNeg + 1))) (cwV 1 hts gL_law_X5_cached rfl rfl rfl (by decide +kernel) ⟨Nat.le_of_ble_eq_true rfl, Nat.le_of_ble_eq_true rfl⟩) (m_preV (ci := 5) hC hH F_175 rfl) rfl rfl hl.1 rfl (lv_room (Nat.le_of_ble_eq_true rfl)) dL_law_632 ⟨by show _ ≤ 600000; omega, by show _ ≤ 7302250; omega⟩) (fun r_172 rho_174 f_173 H locs hw hH => ?_)
        have hu_ : f_173 = f := hw
        rw [hu_] at hH
        refine lv_pop hx hb dL_law_635 rfl ?_
        refine lv_aload_n hx hb dL_law_636 rfl (lv_at hl 1 rfl) ?_
        refine lv_aload_n hx hb dL_law_637 rfl (lv_at hl 3 rfl) ?_
        refine lv_iload_n hx hb dL_law_638 rfl (lv_at hl 0 rfl) ?_
        refine lv_iconst (v := 1) hx hb dL_law_639 (by decide) ?_
        refine lv_iadd hx hb dL_law_640 ?_
        refine lv_topi (fun x_176 ex_176 => ?_)
        have ix_176 : x_176.toInt = i.toInt + 1 := ic_add ex_176 rfl kI_1 (by omega) (by omega)
        refine va_sld (i := x_176) hx hb hX hbl hbA hH.2.2 (vp_in_iff.mpr ⟨by omega, by omega⟩) dL_law_641 ?_
        rw [show x_176.toNatClampNeg = i.toNatClampNeg + 1 from by have := ic_clN (rfl : x_176.toInt = _) (by omega); have := ic_clN (rfl : i.toInt = _) (by omega); omega]
        obtain ⟨_, _, _, _, _, _, _, _, _, _, F_180, -⟩ : okM0 h n (f (h 0)) := hIM.1 0 (by decide)
        refine m_goi hH (va_runV (As := [.int (xs (i.toNatClampNeg + 1))]) (rest := []) ⟨hx, hb, hml, hown, hts⟩ (c_X6_cached l G h n T2 z A f hIM (xs (i.toNatClampNeg + 1))) (cwV 1 hts gL_law_X6_cached rfl rfl rfl (by decide +kernel) ⟨Nat.le_of_ble_eq_true rfl, Nat.le_of_ble_eq_true rfl⟩) (m_preV (ci := 6) hC hH F_180 rfl) rfl rfl hl.1 rfl (lv_room (Nat.le_of_ble_eq_true rfl)) dL_law_642 ⟨by show _ ≤ 600000; omega, by show _ ≤ 7302250; omega⟩) (fun r_177 rho_179 f_178 H locs hw hH => ?_)
        have hu_ : f_178 = f := hw
        rw [hu_] at hH
        refine lv_pop hx hb dL_law_645 rfl ?_
        refine lv_goto (tgt := 857) hx hb dL_law_646 (by decide) ?_
        obtain ⟨x_181, ex_181⟩ : ∃ y : Int32, y = i + 9 := ⟨_, rfl⟩
        have ix_181 : x_181.toInt = i.toInt + 9 := ic_add ex_181 rfl kI_9 (by omega) (by omega)
        refine lv_iinc (v := x_181) (lv' := [(3, .int x_181), (2, .ref (h 0)), (1, .ref (k 0)), (0, .ref b)]) hx hb dL_law_857 hl (k := 0) rfl (by rw [ex_181]; rfl) (by decide) rfl (fun ls hl => ?_)
        refine lv_goto (tgt := 18) hx hb dL_law_860 (by decide) ?_
        exact ih_ x_181 f rho n T T2 z A st (cl_ + 0 + 0) (sl_ + 0 + 0) (by omega) (by omega) hIC hIM hro (by omega) (by omega) (by omega) _ _ _ hH (lv_sub hl [0, 1, 2, 3] rfl)
      · skip
        have jk_4 : x_3.toInt = 13 := hk_4
        refine lv_tableIn (off := 616) (tgt := 649) hx hb dL_law_33 (by rw [jk_4]; decide) (by rw [jk_4]; decide) (by rw [jk_4]; rfl) (by decide) ?_
        refine lv_aload_n hx hb dL_law_649 rfl (lv_at hl 2 rfl) ?_
        refine lv_aload_n hx hb dL_law_650 rfl (lv_at hl 3 rfl) ?_
        refine lv_iload_n hx hb dL_law_651 rfl (lv_at hl 0 rfl) ?_
        refine lv_iconst (v := 1) hx hb dL_law_652 (by decide) ?_
        refine lv_iadd hx hb dL_law_653 ?_
        refine lv_topi (fun x_182 ex_182 => ?_)
        have ix_182 : x_182.toInt = i.toInt + 1 := ic_add ex_182 rfl kI_1 (by omega) (by omega)
        refine va_sld (i := x_182) hx hb hX hbl hbA hH.2.2 (vp_in_iff.mpr ⟨by omega, by omega⟩) dL_law_654 ?_
        rw [show x_182.toNatClampNeg = i.toNatClampNeg + 1 from by have := ic_clN (rfl : x_182.toInt = _) (by omega); have := ic_clN (rfl : i.toInt = _) (by omega); omega]
        obtain ⟨_, _, _, _, _, _, F_186, -⟩ : okLS k n (f (k 0)) := hIC.ls
        refine m_goi hH (va_runV (As := [.int (xs (i.toNatClampNeg + 1))]) (rest := []) ⟨hx, hb, hml, hown, hts⟩ (c_X5_hint l G k rho n T z st f hIC (xs (i.toNatClampNeg + 1))) (cwV 1 hts gL_law_X5_hint rfl rfl rfl (by decide +kernel) ⟨Nat.le_of_ble_eq_true rfl, Nat.le_of_ble_eq_true rfl⟩) (m_preV (ci := 5) hC hH F_186 rfl) rfl rfl hl.1 rfl (lv_room (Nat.le_of_ble_eq_true rfl)) dL_law_655 ⟨by show _ ≤ 600000; omega, by show _ ≤ 7302250; omega⟩) (fun r_183 rho_185 f_184 H locs hw hH => ?_)
        obtain ⟨hIC, hfr_⟩ := hw
        have hIC : IC G k rho_185 n T z st f_184 := hIC
        have hfr_ : frC k rho f rho_185 f_184 := hfr_
        have hkm_ := keepM hIM hjk hsep hro hfr_
        have hIM : IM G h n T2 z A f_184 := hIM.ext hkm_.1
        have hro := hkm_.2
        refine lv_pop hx hb dL_law_658 rfl ?_
        refine lv_aload_n hx hb dL_law_659 rfl (lv_at hl 1 rfl) ?_
        refine lv_aload_n hx hb dL_law_660 rfl (lv_at hl 3 rfl) ?_
        refine lv_iload_n hx hb dL_law_661 rfl (lv_at hl 0 rfl) ?_
        refine lv_iconst (v := 1) hx hb dL_law_662 (by decide) ?_
        refine lv_iadd hx hb dL_law_663 ?_
        refine lv_topi (fun x_187 ex_187 => ?_)
        have ix_187 : x_187.toInt = i.toInt + 1 := ic_add ex_187 rfl kI_1 (by omega) (by omega)
        refine va_sld (i := x_187) hx hb hX hbl hbA hH.2.2 (vp_in_iff.mpr ⟨by omega, by omega⟩) dL_law_664 ?_
        rw [show x_187.toNatClampNeg = i.toNatClampNeg + 1 from by have := ic_clN (rfl : x_187.toInt = _) (by omega); have := ic_clN (rfl : i.toInt = _) (by omega); omega]
        obtain ⟨_, _, _, _, _, _, _, _, _, _, F_191, -⟩ : okM0 h n (f_184 (h 0)) := hIM.1 0 (by decide)
        refine m_goi hH (va_runV (As := [.int (xs (i.toNatClampNeg + 1))]) (rest := []) ⟨hx, hb, hml, hown, hts⟩ (c_X6_hint l G h n T2 z A f_184 hIM (xs (i.toNatClampNeg + 1))) (cwV 1 hts gL_law_X6_hint rfl rfl rfl (by decide +kernel) ⟨Nat.le_of_ble_eq_true rfl, Nat.le_of_ble_eq_true rfl⟩) (m_preV (ci := 6) hC hH F_191 rfl) rfl rfl hl.1 rfl (lv_room (Nat.le_of_ble_eq_true rfl)) dL_law_665 ⟨by show _ ≤ 600000; omega, by show _ ≤ 7302250; omega⟩) (fun r_188 rho_190 f_189 H locs hw hH => ?_)
        obtain ⟨hIM, hfr_⟩ := hw
        have hIM : IM G h n T2 z A f_189 := hIM
        have hfr_ : frM h f_184 f_189 := hfr_
        have hIC : IC G k rho_185 n T z st f_189 := hIC.ext (keepC1 hsep hfr_) (keepC2 hro hfr_)
        refine lv_pop hx hb dL_law_668 rfl ?_
        refine lv_goto (tgt := 857) hx hb dL_law_669 (by decide) ?_
        obtain ⟨x_192, ex_192⟩ : ∃ y : Int32, y = i + 9 := ⟨_, rfl⟩
        have ix_192 : x_192.toInt = i.toInt + 9 := ic_add ex_192 rfl kI_9 (by omega) (by omega)
        refine lv_iinc (v := x_192) (lv' := [(3, .int x_192), (2, .ref (h 0)), (1, .ref (k 0)), (0, .ref b)]) hx hb dL_law_857 hl (k := 0) rfl (by rw [ex_192]; rfl) (by decide) rfl (fun ls hl => ?_)
        refine lv_goto (tgt := 18) hx hb dL_law_860 (by decide) ?_
        exact ih_ x_192 f_189 rho_185 n T T2 z A st (cl_ + 0 + 0) (sl_ + 0 + 0) (by omega) (by omega) hIC hIM hro (by omega) (by omega) (by omega) _ _ _ hH (lv_sub hl [0, 1, 2, 3] rfl)
      · skip
        have jk_4 : x_3.toInt = 14 := hk_4
        refine lv_tableIn (off := 639) (tgt := 672) hx hb dL_law_33 (by rw [jk_4]; decide) (by rw [jk_4]; decide) (by rw [jk_4]; rfl) (by decide) ?_
        refine lv_aload_n hx hb dL_law_672 rfl (lv_at hl 2 rfl) ?_
        refine lv_aload_n hx hb dL_law_673 rfl (lv_at hl 3 rfl) ?_
        refine lv_iload_n hx hb dL_law_674 rfl (lv_at hl 0 rfl) ?_
        refine lv_iconst (v := 1) hx hb dL_law_675 (by decide) ?_
        refine lv_iadd hx hb dL_law_676 ?_
        refine lv_topi (fun x_193 ex_193 => ?_)
        have ix_193 : x_193.toInt = i.toInt + 1 := ic_add ex_193 rfl kI_1 (by omega) (by omega)
        refine va_sld (i := x_193) hx hb hX hbl hbA hH.2.2 (vp_in_iff.mpr ⟨by omega, by omega⟩) dL_law_677 ?_
        rw [show x_193.toNatClampNeg = i.toNatClampNeg + 1 from by have := ic_clN (rfl : x_193.toInt = _) (by omega); have := ic_clN (rfl : i.toInt = _) (by omega); omega]
        obtain ⟨_, _, _, _, _, _, F_197, -⟩ : okLS k n (f (k 0)) := hIC.ls
        refine m_goi hH (va_runV (As := [.int (xs (i.toNatClampNeg + 1))]) (rest := []) ⟨hx, hb, hml, hown, hts⟩ (c_X5_times l G k rho n T z st f hIC (xs (i.toNatClampNeg + 1))) (cwV 1 hts gL_law_X5_times rfl rfl rfl (by decide +kernel) ⟨Nat.le_of_ble_eq_true rfl, Nat.le_of_ble_eq_true rfl⟩) (m_preV (ci := 5) hC hH F_197 rfl) rfl rfl hl.1 rfl (lv_room (Nat.le_of_ble_eq_true rfl)) dL_law_678 ⟨by show _ ≤ 600000; omega, by show _ ≤ 7302250; omega⟩) (fun r_194 rho_196 f_195 H locs hw hH => ?_)
        have hu_ : f_195 = f := hw
        rw [hu_] at hH
        refine lv_pop hx hb dL_law_681 rfl ?_
        refine lv_aload_n hx hb dL_law_682 rfl (lv_at hl 1 rfl) ?_
        refine lv_aload_n hx hb dL_law_683 rfl (lv_at hl 3 rfl) ?_
        refine lv_iload_n hx hb dL_law_684 rfl (lv_at hl 0 rfl) ?_
        refine lv_iconst (v := 1) hx hb dL_law_685 (by decide) ?_
        refine lv_iadd hx hb dL_law_686 ?_
        refine lv_topi (fun x_198 ex_198 => ?_)
        have ix_198 : x_198.toInt = i.toInt + 1 := ic_add ex_198 rfl kI_1 (by omega) (by omega)
        refine va_sld (i := x_198) hx hb hX hbl hbA hH.2.2 (vp_in_iff.mpr ⟨by omega, by omega⟩) dL_law_687 ?_
        rw [show x_198.toNatClampNeg = i.toNatClampNeg + 1 from by have := ic_clN (rfl : x_198.toInt = _) (by omega); have := ic_clN (rfl : i.toInt = _) (by omega); omega]
        obtain ⟨_, _, _, _, _, _, _, _, _, _, F_202, -⟩ : okM0 h n (f (h 0)) := hIM.1 0 (by decide)
        refine m_goi hH (va_runV (As := [.int (xs (i.toNatClampNeg + 1))]) (rest := []) ⟨hx, hb, hml, hown, hts⟩ (c_X6_times l G h n T2 z A f hIM (xs (i.toNatClampNeg + 1))) (cwV 1 hts gL_law_X6_times rfl rfl rfl (by decide +kernel) ⟨Nat.le_of_ble_eq_true rfl, Nat.le_of_ble_eq_true rfl⟩) (m_preV (ci := 6) hC hH F_202 rfl) rfl rfl hl.1 rfl (lv_room (Nat.le_of_ble_eq_true rfl)) dL_law_688 ⟨by show _ ≤ 600000; omega, by show _ ≤ 7302250; omega⟩) (fun r_199 rho_201 f_200 H locs hw hH => ?_)
        have hu_ : f_200 = f := hw
        rw [hu_] at hH
        refine lv_pop hx hb dL_law_691 rfl ?_
        refine lv_goto (tgt := 857) hx hb dL_law_692 (by decide) ?_
        obtain ⟨x_203, ex_203⟩ : ∃ y : Int32, y = i + 9 := ⟨_, rfl⟩
        have ix_203 : x_203.toInt = i.toInt + 9 := ic_add ex_203 rfl kI_9 (by omega) (by omega)
        refine lv_iinc (v := x_203) (lv' := [(3, .int x_203), (2, .ref (h 0)), (1, .ref (k 0)), (0, .ref b)]) hx hb dL_law_857 hl (k := 0) rfl (by rw [ex_203]; rfl) (by decide) rfl (fun ls hl => ?_)
        refine lv_goto (tgt := 18) hx hb dL_law_860 (by decide) ?_
        exact ih_ x_203 f rho n T T2 z A st (cl_ + 0 + 0) (sl_ + 0 + 0) (by omega) (by omega) hIC hIM hro (by omega) (by omega) (by omega) _ _ _ hH (lv_sub hl [0, 1, 2, 3] rfl)
      · skip
        have jk_4 : x_3.toInt = 15 := hk_4
        refine lv_tableIn (off := 662) (tgt := 695) hx hb dL_law_33 (by rw [jk_4]; decide) (by rw [jk_4]; decide) (by rw [jk_4]; rfl) (by decide) ?_
        refine lv_aload_n hx hb dL_law_695 rfl (lv_at hl 2 rfl) ?_
        refine lv_aload_n hx hb dL_law_696 rfl (lv_at hl 3 rfl) ?_
        refine lv_iload_n hx hb dL_law_697 rfl (lv_at hl 0 rfl) ?_
        refine lv_iconst (v := 1) hx hb dL_law_698 (by decide) ?_
        refine lv_iadd hx hb dL_law_699 ?_
        refine lv_topi (fun x_204 ex_204 => ?_)
        have ix_204 : x_204.toInt = i.toInt + 1 := ic_add ex_204 rfl kI_1 (by omega) (by omega)
        refine va_sld (i := x_204) hx hb hX hbl hbA hH.2.2 (vp_in_iff.mpr ⟨by omega, by omega⟩) dL_law_700 ?_
        rw [show x_204.toNatClampNeg = i.toNatClampNeg + 1 from by have := ic_clN (rfl : x_204.toInt = _) (by omega); have := ic_clN (rfl : i.toInt = _) (by omega); omega]
        refine lv_aload_n hx hb dL_law_701 rfl (lv_at hl 3 rfl) ?_
        refine lv_iload_n hx hb dL_law_702 rfl (lv_at hl 0 rfl) ?_
        refine lv_iconst (v := 2) hx hb dL_law_703 (by decide) ?_
        refine lv_iadd hx hb dL_law_704 ?_
        refine lv_topi (fun x_205 ex_205 => ?_)
        have ix_205 : x_205.toInt = i.toInt + 2 := ic_add ex_205 rfl kI_2 (by omega) (by omega)
        refine va_sld (i := x_205) hx hb hX hbl hbA hH.2.2 (vp_in_iff.mpr ⟨by omega, by omega⟩) dL_law_705 ?_
        rw [show x_205.toNatClampNeg = i.toNatClampNeg + 2 from by have := ic_clN (rfl : x_205.toInt = _) (by omega); have := ic_clN (rfl : i.toInt = _) (by omega); omega]
        refine lv_aload_n hx hb dL_law_706 rfl (lv_at hl 3 rfl) ?_
        refine lv_iload_n hx hb dL_law_707 rfl (lv_at hl 0 rfl) ?_
        refine lv_iconst (v := 3) hx hb dL_law_708 (by decide) ?_
        refine lv_iadd hx hb dL_law_709 ?_
        refine lv_topi (fun x_206 ex_206 => ?_)
        have ix_206 : x_206.toInt = i.toInt + 3 := ic_add ex_206 rfl kI_3 (by omega) (by omega)
        refine va_sld (i := x_206) hx hb hX hbl hbA hH.2.2 (vp_in_iff.mpr ⟨by omega, by omega⟩) dL_law_710 ?_
        rw [show x_206.toNatClampNeg = i.toNatClampNeg + 3 from by have := ic_clN (rfl : x_206.toInt = _) (by omega); have := ic_clN (rfl : i.toInt = _) (by omega); omega]
        refine lv_i2l hx hb dL_law_711 rfl ?_
        refine lv_bipush (v := 32) hx hb dL_law_712 (by decide) ?_
        refine lv_lshl hx hb dL_law_714 rfl ?_
        refine lv_aload_n hx hb dL_law_715 rfl (lv_at hl 3 rfl) ?_
        refine lv_iload_n hx hb dL_law_716 rfl (lv_at hl 0 rfl) ?_
        refine lv_iconst (v := 4) hx hb dL_law_717 (by decide) ?_
        refine lv_iadd hx hb dL_law_718 ?_
        refine lv_topi (fun x_207 ex_207 => ?_)
        have ix_207 : x_207.toInt = i.toInt + 4 := ic_add ex_207 rfl kI_4 (by omega) (by omega)
        refine va_sld (i := x_207) hx hb hX hbl hbA hH.2.2 (vp_in_iff.mpr ⟨by omega, by omega⟩) dL_law_719 ?_
        rw [show x_207.toNatClampNeg = i.toNatClampNeg + 4 from by have := ic_clN (rfl : x_207.toInt = _) (by omega); have := ic_clN (rfl : i.toInt = _) (by omega); omega]
        refine lv_i2l hx hb dL_law_720 rfl ?_
        refine lv_ldc2 (v := 4294967295) hx hb hown (hts (.constantLong RL 18 (4294967295)) (by decide +kernel)) dL_law_721 ?_
        refine lv_land hx hb dL_law_724 ?_
        refine lv_lor hx hb dL_law_725 ?_
        obtain ⟨_, _, _, _, _, _, F_211, -⟩ : okLS k n (f (k 0)) := hIC.ls
        refine m_goi hH (va_runV (As := [.int (xs (i.toNatClampNeg + 1)), .int (xs (i.toNatClampNeg + 2)), .long ((((xs (i.toNatClampNeg + 3)).toInt64) <<< ((32 : Int32).toInt64 &&& 63)) ||| (((xs (i.toNatClampNeg + 4)).toInt64) &&& 4294967295))]) (rest := []) ⟨hx, hb, hml, hown, hts⟩ (c_X5_all l G k rho n T z st f hIC (xs (i.toNatClampNeg + 1)) (xs (i.toNatClampNeg + 2)) ((((xs (i.toNatClampNeg + 3)).toInt64) <<< ((32 : Int32).toInt64 &&& 63)) ||| (((xs (i.toNatClampNeg + 4)).toInt64) &&& 4294967295))) (cwV 3 hts gL_law_X5_all rfl rfl rfl (by decide +kernel) ⟨Nat.le_of_ble_eq_true rfl, Nat.le_of_ble_eq_true rfl⟩) (m_preV (ci := 5) hC hH F_211 rfl) rfl rfl hl.1 rfl (lv_room (Nat.le_of_ble_eq_true rfl)) dL_law_726 ⟨by show _ ≤ 600000; omega, by show _ ≤ 7302250; omega⟩) (fun r_208 rho_210 f_209 H locs hw hH => ?_)
        obtain ⟨st2_, hIC, hfr_⟩ := hw
        have hIC : IC G k rho_210 n T z st2_ f_209 := hIC
        have hfr_ : frC k rho f rho_210 f_209 := hfr_
        have hkm_ := keepM hIM hjk hsep hro hfr_
        have hIM : IM G h n T2 z A f_209 := hIM.ext hkm_.1
        have hro := hkm_.2
        refine lv_pop hx hb dL_law_729 rfl ?_
        refine lv_aload_n hx hb dL_law_730 rfl (lv_at hl 1 rfl) ?_
        refine lv_aload_n hx hb dL_law_731 rfl (lv_at hl 3 rfl) ?_
        refine lv_iload_n hx hb dL_law_732 rfl (lv_at hl 0 rfl) ?_
        refine lv_iconst (v := 1) hx hb dL_law_733 (by decide) ?_
        refine lv_iadd hx hb dL_law_734 ?_
        refine lv_topi (fun x_212 ex_212 => ?_)
        have ix_212 : x_212.toInt = i.toInt + 1 := ic_add ex_212 rfl kI_1 (by omega) (by omega)
        refine va_sld (i := x_212) hx hb hX hbl hbA hH.2.2 (vp_in_iff.mpr ⟨by omega, by omega⟩) dL_law_735 ?_
        rw [show x_212.toNatClampNeg = i.toNatClampNeg + 1 from by have := ic_clN (rfl : x_212.toInt = _) (by omega); have := ic_clN (rfl : i.toInt = _) (by omega); omega]
        refine lv_aload_n hx hb dL_law_736 rfl (lv_at hl 3 rfl) ?_
        refine lv_iload_n hx hb dL_law_737 rfl (lv_at hl 0 rfl) ?_
        refine lv_iconst (v := 2) hx hb dL_law_738 (by decide) ?_
        refine lv_iadd hx hb dL_law_739 ?_
        refine lv_topi (fun x_213 ex_213 => ?_)
        have ix_213 : x_213.toInt = i.toInt + 2 := ic_add ex_213 rfl kI_2 (by omega) (by omega)
        refine va_sld (i := x_213) hx hb hX hbl hbA hH.2.2 (vp_in_iff.mpr ⟨by omega, by omega⟩) dL_law_740 ?_
        rw [show x_213.toNatClampNeg = i.toNatClampNeg + 2 from by have := ic_clN (rfl : x_213.toInt = _) (by omega); have := ic_clN (rfl : i.toInt = _) (by omega); omega]
        refine lv_aload_n hx hb dL_law_741 rfl (lv_at hl 3 rfl) ?_
        refine lv_iload_n hx hb dL_law_742 rfl (lv_at hl 0 rfl) ?_
        refine lv_iconst (v := 3) hx hb dL_law_743 (by decide) ?_
        refine lv_iadd hx hb dL_law_744 ?_
        refine lv_topi (fun x_214 ex_214 => ?_)
        have ix_214 : x_214.toInt = i.toInt + 3 := ic_add ex_214 rfl kI_3 (by omega) (by omega)
        refine va_sld (i := x_214) hx hb hX hbl hbA hH.2.2 (vp_in_iff.mpr ⟨by omega, by omega⟩) dL_law_745 ?_
        rw [show x_214.toNatClampNeg = i.toNatClampNeg + 3 from by have := ic_clN (rfl : x_214.toInt = _) (by omega); have := ic_clN (rfl : i.toInt = _) (by omega); omega]
        refine lv_i2l hx hb dL_law_746 rfl ?_
        refine lv_bipush (v := 32) hx hb dL_law_747 (by decide) ?_
        refine lv_lshl hx hb dL_law_749 rfl ?_
        refine lv_aload_n hx hb dL_law_750 rfl (lv_at hl 3 rfl) ?_
        refine lv_iload_n hx hb dL_law_751 rfl (lv_at hl 0 rfl) ?_
        refine lv_iconst (v := 4) hx hb dL_law_752 (by decide) ?_
        refine lv_iadd hx hb dL_law_753 ?_
        refine lv_topi (fun x_215 ex_215 => ?_)
        have ix_215 : x_215.toInt = i.toInt + 4 := ic_add ex_215 rfl kI_4 (by omega) (by omega)
        refine va_sld (i := x_215) hx hb hX hbl hbA hH.2.2 (vp_in_iff.mpr ⟨by omega, by omega⟩) dL_law_754 ?_
        rw [show x_215.toNatClampNeg = i.toNatClampNeg + 4 from by have := ic_clN (rfl : x_215.toInt = _) (by omega); have := ic_clN (rfl : i.toInt = _) (by omega); omega]
        refine lv_i2l hx hb dL_law_755 rfl ?_
        refine lv_ldc2 (v := 4294967295) hx hb hown (hts (.constantLong RL 18 (4294967295)) (by decide +kernel)) dL_law_756 ?_
        refine lv_land hx hb dL_law_759 ?_
        refine lv_lor hx hb dL_law_760 ?_
        obtain ⟨_, _, _, _, _, _, _, _, _, _, F_219, -⟩ : okM0 h n (f_209 (h 0)) := hIM.1 0 (by decide)
        refine m_goi hH (va_runV (As := [.int (xs (i.toNatClampNeg + 1)), .int (xs (i.toNatClampNeg + 2)), .long ((((xs (i.toNatClampNeg + 3)).toInt64) <<< ((32 : Int32).toInt64 &&& 63)) ||| (((xs (i.toNatClampNeg + 4)).toInt64) &&& 4294967295))]) (rest := []) ⟨hx, hb, hml, hown, hts⟩ (c_X6_all l G h n T2 z A f_209 hIM (xs (i.toNatClampNeg + 1)) (xs (i.toNatClampNeg + 2)) ((((xs (i.toNatClampNeg + 3)).toInt64) <<< ((32 : Int32).toInt64 &&& 63)) ||| (((xs (i.toNatClampNeg + 4)).toInt64) &&& 4294967295))) (cwV 3 hts gL_law_X6_all rfl rfl rfl (by decide +kernel) ⟨Nat.le_of_ble_eq_true rfl, Nat.le_of_ble_eq_true rfl⟩) (m_preV (ci := 6) hC hH F_219 rfl) rfl rfl hl.1 rfl (lv_room (Nat.le_of_ble_eq_true rfl)) dL_law_761 ⟨by show _ ≤ 600000; omega, by show _ ≤ 7302250; omega⟩) (fun r_216 rho_218 f_217 H locs hw hH => ?_)
        have hu_ : f_217 = f_209 := hw
        rw [hu_] at hH
        refine lv_pop hx hb dL_law_764 rfl ?_
        refine lv_goto (tgt := 857) hx hb dL_law_765 (by decide) ?_
        obtain ⟨x_220, ex_220⟩ : ∃ y : Int32, y = i + 9 := ⟨_, rfl⟩
        have ix_220 : x_220.toInt = i.toInt + 9 := ic_add ex_220 rfl kI_9 (by omega) (by omega)
        refine lv_iinc (v := x_220) (lv' := [(3, .int x_220), (2, .ref (h 0)), (1, .ref (k 0)), (0, .ref b)]) hx hb dL_law_857 hl (k := 0) rfl (by rw [ex_220]; rfl) (by decide) rfl (fun ls hl => ?_)
        refine lv_goto (tgt := 18) hx hb dL_law_860 (by decide) ?_
        exact ih_ x_220 f_209 rho_210 n T T2 z A st2_ (cl_ + 228 + 0) (sl_ + 2204 + 0) (by omega) (by omega) hIC hIM hro (by omega) (by omega) (by omega) _ _ _ hH (lv_sub hl [0, 1, 2, 3] rfl)
      · skip
        have jk_4 : x_3.toInt = 16 := hk_4
        refine lv_tableIn (off := 735) (tgt := 768) hx hb dL_law_33 (by rw [jk_4]; decide) (by rw [jk_4]; decide) (by rw [jk_4]; rfl) (by decide) ?_
        refine lv_aload_n hx hb dL_law_768 rfl (lv_at hl 2 rfl) ?_
        refine lv_aload_n hx hb dL_law_769 rfl (lv_at hl 3 rfl) ?_
        refine lv_iload_n hx hb dL_law_770 rfl (lv_at hl 0 rfl) ?_
        refine lv_iconst (v := 1) hx hb dL_law_771 (by decide) ?_
        refine lv_iadd hx hb dL_law_772 ?_
        refine lv_topi (fun x_221 ex_221 => ?_)
        have ix_221 : x_221.toInt = i.toInt + 1 := ic_add ex_221 rfl kI_1 (by omega) (by omega)
        refine va_sld (i := x_221) hx hb hX hbl hbA hH.2.2 (vp_in_iff.mpr ⟨by omega, by omega⟩) dL_law_773 ?_
        rw [show x_221.toNatClampNeg = i.toNatClampNeg + 1 from by have := ic_clN (rfl : x_221.toInt = _) (by omega); have := ic_clN (rfl : i.toInt = _) (by omega); omega]
        refine lv_aload_n hx hb dL_law_774 rfl (lv_at hl 3 rfl) ?_
        refine lv_iload_n hx hb dL_law_775 rfl (lv_at hl 0 rfl) ?_
        refine lv_iconst (v := 2) hx hb dL_law_776 (by decide) ?_
        refine lv_iadd hx hb dL_law_777 ?_
        refine lv_topi (fun x_222 ex_222 => ?_)
        have ix_222 : x_222.toInt = i.toInt + 2 := ic_add ex_222 rfl kI_2 (by omega) (by omega)
        refine va_sld (i := x_222) hx hb hX hbl hbA hH.2.2 (vp_in_iff.mpr ⟨by omega, by omega⟩) dL_law_778 ?_
        rw [show x_222.toNatClampNeg = i.toNatClampNeg + 2 from by have := ic_clN (rfl : x_222.toInt = _) (by omega); have := ic_clN (rfl : i.toInt = _) (by omega); omega]
        refine lv_aload_n hx hb dL_law_779 rfl (lv_at hl 3 rfl) ?_
        refine lv_iload_n hx hb dL_law_780 rfl (lv_at hl 0 rfl) ?_
        refine lv_iconst (v := 3) hx hb dL_law_781 (by decide) ?_
        refine lv_iadd hx hb dL_law_782 ?_
        refine lv_topi (fun x_223 ex_223 => ?_)
        have ix_223 : x_223.toInt = i.toInt + 3 := ic_add ex_223 rfl kI_3 (by omega) (by omega)
        refine va_sld (i := x_223) hx hb hX hbl hbA hH.2.2 (vp_in_iff.mpr ⟨by omega, by omega⟩) dL_law_783 ?_
        rw [show x_223.toNatClampNeg = i.toNatClampNeg + 3 from by have := ic_clN (rfl : x_223.toInt = _) (by omega); have := ic_clN (rfl : i.toInt = _) (by omega); omega]
        refine lv_aload_n hx hb dL_law_784 rfl (lv_at hl 3 rfl) ?_
        refine lv_iload_n hx hb dL_law_785 rfl (lv_at hl 0 rfl) ?_
        refine lv_iconst (v := 4) hx hb dL_law_786 (by decide) ?_
        refine lv_iadd hx hb dL_law_787 ?_
        refine lv_topi (fun x_224 ex_224 => ?_)
        have ix_224 : x_224.toInt = i.toInt + 4 := ic_add ex_224 rfl kI_4 (by omega) (by omega)
        refine va_sld (i := x_224) hx hb hX hbl hbA hH.2.2 (vp_in_iff.mpr ⟨by omega, by omega⟩) dL_law_788 ?_
        rw [show x_224.toNatClampNeg = i.toNatClampNeg + 4 from by have := ic_clN (rfl : x_224.toInt = _) (by omega); have := ic_clN (rfl : i.toInt = _) (by omega); omega]
        obtain ⟨_, _, _, _, _, _, F_228, -⟩ : okLS k n (f (k 0)) := hIC.ls
        refine m_gol hH (va_runV (As := [.int (xs (i.toNatClampNeg + 1)), .int (xs (i.toNatClampNeg + 2)), .int (xs (i.toNatClampNeg + 3)), .int (xs (i.toNatClampNeg + 4))]) (rest := []) ⟨hx, hb, hml, hown, hts⟩ (c_X5_view l G k rho n T z st f hIC (xs (i.toNatClampNeg + 1)) (xs (i.toNatClampNeg + 2)) (xs (i.toNatClampNeg + 3)) (xs (i.toNatClampNeg + 4))) (cwV 4 hts gL_law_X5_view rfl rfl rfl (by decide +kernel) ⟨Nat.le_of_ble_eq_true rfl, Nat.le_of_ble_eq_true rfl⟩) (m_preV (ci := 5) hC hH F_228 rfl) rfl rfl hl.1 rfl (lv_room (Nat.le_of_ble_eq_true rfl)) dL_law_789 ⟨by show _ ≤ 600000; omega, by show _ ≤ 7302250; omega⟩) (fun r_225 rho_227 f_226 H locs hw hH => ?_)
        obtain ⟨hIC, hfr_⟩ := hw
        have hIC : IC G k rho_227 n T z st f_226 := hIC
        have hfr_ : frC k rho f rho_227 f_226 := hfr_
        have hkm_ := keepM hIM hjk hsep hro hfr_
        have hIM : IM G h n T2 z A f_226 := hIM.ext hkm_.1
        have hro := hkm_.2
        refine lv_pop2_2 hx hb dL_law_792 rfl ?_
        refine lv_aload_n hx hb dL_law_793 rfl (lv_at hl 1 rfl) ?_
        refine lv_aload_n hx hb dL_law_794 rfl (lv_at hl 3 rfl) ?_
        refine lv_iload_n hx hb dL_law_795 rfl (lv_at hl 0 rfl) ?_
        refine lv_iconst (v := 1) hx hb dL_law_796 (by decide) ?_
        refine lv_iadd hx hb dL_law_797 ?_
        refine lv_topi (fun x_229 ex_229 => ?_)
        have ix_229 : x_229.toInt = i.toInt + 1 := ic_add ex_229 rfl kI_1 (by omega) (by omega)
        refine va_sld (i := x_229) hx hb hX hbl hbA hH.2.2 (vp_in_iff.mpr ⟨by omega, by omega⟩) dL_law_798 ?_
        rw [show x_229.toNatClampNeg = i.toNatClampNeg + 1 from by have := ic_clN (rfl : x_229.toInt = _) (by omega); have := ic_clN (rfl : i.toInt = _) (by omega); omega]
        refine lv_aload_n hx hb dL_law_799 rfl (lv_at hl 3 rfl) ?_
        refine lv_iload_n hx hb dL_law_800 rfl (lv_at hl 0 rfl) ?_
        refine lv_iconst (v := 2) hx hb dL_law_801 (by decide) ?_
        refine lv_iadd hx hb dL_law_802 ?_
        refine lv_topi (fun x_230 ex_230 => ?_)
        have ix_230 : x_230.toInt = i.toInt + 2 := ic_add ex_230 rfl kI_2 (by omega) (by omega)
        refine va_sld (i := x_230) hx hb hX hbl hbA hH.2.2 (vp_in_iff.mpr ⟨by omega, by omega⟩) dL_law_803 ?_
        rw [show x_230.toNatClampNeg = i.toNatClampNeg + 2 from by have := ic_clN (rfl : x_230.toInt = _) (by omega); have := ic_clN (rfl : i.toInt = _) (by omega); omega]
        refine lv_aload_n hx hb dL_law_804 rfl (lv_at hl 3 rfl) ?_
        refine lv_iload_n hx hb dL_law_805 rfl (lv_at hl 0 rfl) ?_
        refine lv_iconst (v := 3) hx hb dL_law_806 (by decide) ?_
        refine lv_iadd hx hb dL_law_807 ?_
        refine lv_topi (fun x_231 ex_231 => ?_)
        have ix_231 : x_231.toInt = i.toInt + 3 := ic_add ex_231 rfl kI_3 (by omega) (by omega)
        refine va_sld (i := x_231) hx hb hX hbl hbA hH.2.2 (vp_in_iff.mpr ⟨by omega, by omega⟩) dL_law_808 ?_
        rw [show x_231.toNatClampNeg = i.toNatClampNeg + 3 from by have := ic_clN (rfl : x_231.toInt = _) (by omega); have := ic_clN (rfl : i.toInt = _) (by omega); omega]
        refine lv_aload_n hx hb dL_law_809 rfl (lv_at hl 3 rfl) ?_
        refine lv_iload_n hx hb dL_law_810 rfl (lv_at hl 0 rfl) ?_
        refine lv_iconst (v := 4) hx hb dL_law_811 (by decide) ?_
        refine lv_iadd hx hb dL_law_812 ?_
        refine lv_topi (fun x_232 ex_232 => ?_)
        have ix_232 : x_232.toInt = i.toInt + 4 := ic_add ex_232 rfl kI_4 (by omega) (by omega)
        refine va_sld (i := x_232) hx hb hX hbl hbA hH.2.2 (vp_in_iff.mpr ⟨by omega, by omega⟩) dL_law_813 ?_
        rw [show x_232.toNatClampNeg = i.toNatClampNeg + 4 from by have := ic_clN (rfl : x_232.toInt = _) (by omega); have := ic_clN (rfl : i.toInt = _) (by omega); omega]
        obtain ⟨_, _, _, _, _, _, _, _, _, _, F_236, -⟩ : okM0 h n (f_226 (h 0)) := hIM.1 0 (by decide)
        refine m_gol hH (va_runV (As := [.int (xs (i.toNatClampNeg + 1)), .int (xs (i.toNatClampNeg + 2)), .int (xs (i.toNatClampNeg + 3)), .int (xs (i.toNatClampNeg + 4))]) (rest := []) ⟨hx, hb, hml, hown, hts⟩ (c_X6_view l G h n T2 z A f_226 hIM (xs (i.toNatClampNeg + 1)) (xs (i.toNatClampNeg + 2)) (xs (i.toNatClampNeg + 3)) (xs (i.toNatClampNeg + 4))) (cwV 4 hts gL_law_X6_view rfl rfl rfl (by decide +kernel) ⟨Nat.le_of_ble_eq_true rfl, Nat.le_of_ble_eq_true rfl⟩) (m_preV (ci := 6) hC hH F_236 rfl) rfl rfl hl.1 rfl (lv_room (Nat.le_of_ble_eq_true rfl)) dL_law_814 ⟨by show _ ≤ 600000; omega, by show _ ≤ 7302250; omega⟩) (fun r_233 rho_235 f_234 H locs hw hH => ?_)
        obtain ⟨hIM, hfr_⟩ := hw
        have hIM : IM G h n T2 z A f_234 := hIM
        have hfr_ : frM h f_226 f_234 := hfr_
        have hIC : IC G k rho_227 n T z st f_234 := hIC.ext (keepC1 hsep hfr_) (keepC2 hro hfr_)
        refine lv_pop2_2 hx hb dL_law_817 rfl ?_
        refine lv_goto (tgt := 857) hx hb dL_law_818 (by decide) ?_
        obtain ⟨x_237, ex_237⟩ : ∃ y : Int32, y = i + 9 := ⟨_, rfl⟩
        have ix_237 : x_237.toInt = i.toInt + 9 := ic_add ex_237 rfl kI_9 (by omega) (by omega)
        refine lv_iinc (v := x_237) (lv' := [(3, .int x_237), (2, .ref (h 0)), (1, .ref (k 0)), (0, .ref b)]) hx hb dL_law_857 hl (k := 0) rfl (by rw [ex_237]; rfl) (by decide) rfl (fun ls hl => ?_)
        refine lv_goto (tgt := 18) hx hb dL_law_860 (by decide) ?_
        exact ih_ x_237 f_234 rho_227 n T T2 z A st (cl_ + 0 + 0) (sl_ + 0 + 0) (by omega) (by omega) hIC hIM hro (by omega) (by omega) (by omega) _ _ _ hH (lv_sub hl [0, 1, 2, 3] rfl)
      · skip
        have jk_4 : x_3.toInt = 17 := hk_4
        refine lv_tableIn (off := 788) (tgt := 821) hx hb dL_law_33 (by rw [jk_4]; decide) (by rw [jk_4]; decide) (by rw [jk_4]; rfl) (by decide) ?_
        refine lv_aload_n hx hb dL_law_821 rfl (lv_at hl 2 rfl) ?_
        obtain ⟨_, _, _, _, _, _, F_241, -⟩ : okLS k n (f (k 0)) := hIC.ls
        refine m_goi hH (va_runV (As := []) (rest := []) ⟨hx, hb, hml, hown, hts⟩ (c_X5_status l G k rho n T z st f hIC) (cwV 0 hts gL_law_X5_status rfl rfl rfl (by decide +kernel) ⟨Nat.le_of_ble_eq_true rfl, Nat.le_of_ble_eq_true rfl⟩) (m_preV (ci := 5) hC hH F_241 rfl) rfl rfl hl.1 rfl (lv_room (Nat.le_of_ble_eq_true rfl)) dL_law_822 ⟨by show _ ≤ 600000; omega, by show _ ≤ 7302250; omega⟩) (fun r_238 rho_240 f_239 H locs hw hH => ?_)
        have hu_ : f_239 = f := hw
        rw [hu_] at hH
        refine lv_pop hx hb dL_law_825 rfl ?_
        refine lv_aload_n hx hb dL_law_826 rfl (lv_at hl 1 rfl) ?_
        obtain ⟨_, _, _, _, _, _, _, _, _, _, F_245, -⟩ : okM0 h n (f (h 0)) := hIM.1 0 (by decide)
        refine m_goi hH (va_runV (As := []) (rest := []) ⟨hx, hb, hml, hown, hts⟩ (c_X6_status l G h n T2 z A f hIM) (cwV 0 hts gL_law_X6_status rfl rfl rfl (by decide +kernel) ⟨Nat.le_of_ble_eq_true rfl, Nat.le_of_ble_eq_true rfl⟩) (m_preV (ci := 6) hC hH F_245 rfl) rfl rfl hl.1 rfl (lv_room (Nat.le_of_ble_eq_true rfl)) dL_law_827 ⟨by show _ ≤ 600000; omega, by show _ ≤ 7302250; omega⟩) (fun r_242 rho_244 f_243 H locs hw hH => ?_)
        have hu_ : f_243 = f := hw
        rw [hu_] at hH
        refine lv_pop hx hb dL_law_830 rfl ?_
        refine lv_goto (tgt := 857) hx hb dL_law_831 (by decide) ?_
        obtain ⟨x_246, ex_246⟩ : ∃ y : Int32, y = i + 9 := ⟨_, rfl⟩
        have ix_246 : x_246.toInt = i.toInt + 9 := ic_add ex_246 rfl kI_9 (by omega) (by omega)
        refine lv_iinc (v := x_246) (lv' := [(3, .int x_246), (2, .ref (h 0)), (1, .ref (k 0)), (0, .ref b)]) hx hb dL_law_857 hl (k := 0) rfl (by rw [ex_246]; rfl) (by decide) rfl (fun ls hl => ?_)
        refine lv_goto (tgt := 18) hx hb dL_law_860 (by decide) ?_
        exact ih_ x_246 f rho n T T2 z A st (cl_ + 0 + 0) (sl_ + 0 + 0) (by omega) (by omega) hIC hIM hro (by omega) (by omega) (by omega) _ _ _ hH (lv_sub hl [0, 1, 2, 3] rfl)
      · skip
        have jk_4 : x_3.toInt = 18 := hk_4
        refine lv_tableIn (off := 801) (tgt := 834) hx hb dL_law_33 (by rw [jk_4]; decide) (by rw [jk_4]; decide) (by rw [jk_4]; rfl) (by decide) ?_
        refine lv_aload_n hx hb dL_law_834 rfl (lv_at hl 2 rfl) ?_
        refine lv_aload_n hx hb dL_law_835 rfl (lv_at hl 3 rfl) ?_
        refine lv_iload_n hx hb dL_law_836 rfl (lv_at hl 0 rfl) ?_
        refine lv_iconst (v := 1) hx hb dL_law_837 (by decide) ?_
        refine lv_iadd hx hb dL_law_838 ?_
        refine lv_topi (fun x_247 ex_247 => ?_)
        have ix_247 : x_247.toInt = i.toInt + 1 := ic_add ex_247 rfl kI_1 (by omega) (by omega)
        refine va_sld (i := x_247) hx hb hX hbl hbA hH.2.2 (vp_in_iff.mpr ⟨by omega, by omega⟩) dL_law_839 ?_
        rw [show x_247.toNatClampNeg = i.toNatClampNeg + 1 from by have := ic_clN (rfl : x_247.toInt = _) (by omega); have := ic_clN (rfl : i.toInt = _) (by omega); omega]
        obtain ⟨_, _, _, _, _, _, F_251, -⟩ : okLS k n (f (k 0)) := hIC.ls
        refine m_goi hH (va_runV (As := [.int (xs (i.toNatClampNeg + 1))]) (rest := []) ⟨hx, hb, hml, hown, hts⟩ (c_X5_told l G k rho n T z st f hIC (xs (i.toNatClampNeg + 1))) (cwV 1 hts gL_law_X5_told rfl rfl rfl (by decide +kernel) ⟨Nat.le_of_ble_eq_true rfl, Nat.le_of_ble_eq_true rfl⟩) (m_preV (ci := 5) hC hH F_251 rfl) rfl rfl hl.1 rfl (lv_room (Nat.le_of_ble_eq_true rfl)) dL_law_840 ⟨by show _ ≤ 600000; omega, by show _ ≤ 7302250; omega⟩) (fun r_248 rho_250 f_249 H locs hw hH => ?_)
        have hu_ : f_249 = f := hw
        rw [hu_] at hH
        refine lv_pop hx hb dL_law_843 rfl ?_
        refine lv_aload_n hx hb dL_law_844 rfl (lv_at hl 1 rfl) ?_
        refine lv_aload_n hx hb dL_law_845 rfl (lv_at hl 3 rfl) ?_
        refine lv_iload_n hx hb dL_law_846 rfl (lv_at hl 0 rfl) ?_
        refine lv_iconst (v := 1) hx hb dL_law_847 (by decide) ?_
        refine lv_iadd hx hb dL_law_848 ?_
        refine lv_topi (fun x_252 ex_252 => ?_)
        have ix_252 : x_252.toInt = i.toInt + 1 := ic_add ex_252 rfl kI_1 (by omega) (by omega)
        refine va_sld (i := x_252) hx hb hX hbl hbA hH.2.2 (vp_in_iff.mpr ⟨by omega, by omega⟩) dL_law_849 ?_
        rw [show x_252.toNatClampNeg = i.toNatClampNeg + 1 from by have := ic_clN (rfl : x_252.toInt = _) (by omega); have := ic_clN (rfl : i.toInt = _) (by omega); omega]
        obtain ⟨_, _, _, _, _, _, _, _, _, _, F_256, -⟩ : okM0 h n (f (h 0)) := hIM.1 0 (by decide)
        refine m_goi hH (va_runV (As := [.int (xs (i.toNatClampNeg + 1))]) (rest := []) ⟨hx, hb, hml, hown, hts⟩ (c_X6_told l G h n T2 z A f hIM (xs (i.toNatClampNeg + 1))) (cwV 1 hts gL_law_X6_told rfl rfl rfl (by decide +kernel) ⟨Nat.le_of_ble_eq_true rfl, Nat.le_of_ble_eq_true rfl⟩) (m_preV (ci := 6) hC hH F_256 rfl) rfl rfl hl.1 rfl (lv_room (Nat.le_of_ble_eq_true rfl)) dL_law_850 ⟨by show _ ≤ 600000; omega, by show _ ≤ 7302250; omega⟩) (fun r_253 rho_255 f_254 H locs hw hH => ?_)
        have hu_ : f_254 = f := hw
        rw [hu_] at hH
        refine lv_pop hx hb dL_law_853 rfl ?_
        refine lv_goto (tgt := 857) hx hb dL_law_854 (by decide) ?_
        obtain ⟨x_257, ex_257⟩ : ∃ y : Int32, y = i + 9 := ⟨_, rfl⟩
        have ix_257 : x_257.toInt = i.toInt + 9 := ic_add ex_257 rfl kI_9 (by omega) (by omega)
        refine lv_iinc (v := x_257) (lv' := [(3, .int x_257), (2, .ref (h 0)), (1, .ref (k 0)), (0, .ref b)]) hx hb dL_law_857 hl (k := 0) rfl (by rw [ex_257]; rfl) (by decide) rfl (fun ls hl => ?_)
        refine lv_goto (tgt := 18) hx hb dL_law_860 (by decide) ?_
        exact ih_ x_257 f rho n T T2 z A st (cl_ + 0 + 0) (sl_ + 0 + 0) (by omega) (by omega) hIC hIM hro (by omega) (by omega) (by omega) _ _ _ hH (lv_sub hl [0, 1, 2, 3] rfl)
