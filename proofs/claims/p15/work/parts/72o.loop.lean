set_option maxHeartbeats 40000000 in
set_option maxRecDepth 100000 in
theorem lw_c14 {p : Program} {e : Env} {s : State} {m : MethodId} {below : List Frame} {meth : Method} {c : Code} (l : Launch) {b L : Nat} {xs : Nat → Int32} (hL : L ≤ 4608) (G : mG) (hgN : gN G = s.heap.size) (hC : mC G s) (C0 : lw_At p s m meth c b L xs) (k h : Nat → Nat) (hsep : ∀ i j, i < 41 → j < 30 → k i ≠ h j) (hjk : ∀ j, j < 30 → rM j = false → h j = h 0) (N_ : Nat) (ih_ : lw_I p e s m below meth c l b L G k h N_) (i : Int32) (f : mF) (rho : tR) (cl_ sl_ : Nat) (h0_ : 0 ≤ i.toInt) (h1_ : i.toInt ≤ (L : Int) - 9) (hJ : JI G k h rho f) (hro : ∀ j, j < 30 → (rho (h j)).1 = 0) (hcl : 9 * (cl_ : Int) ≤ 549 + 228 * i.toInt) (hsl : 9 * (sl_ : Int) ≤ 766476 + 2204 * i.toInt) (hN_ : ((4617 : Int) - i.toInt).toNat < N_ + 1) (H : Heap) (locs : List Loc) (ls : Array Slot) (hH : mH G s f H locs) (hl : lv_has ls 4 [(3, .int i), (2, .ref (h 0)), (1, .ref (k 0)), (0, .ref b)]) : W p l e room_1 s m #[Value.ref b] below meth c H locs cl_ sl_ (lw_Z below #[Value.ref b] s) (F0 m 672 ls []) := by
  have C1 := C0
  obtain ⟨hx, hb, hr, hml, hown, hts0, hX, hbl, hlk, hgv⟩ := C0
  have hts : ∀ w ∈ wsL_law, w.before #[Value.ref b] s = true := fun w h => hts0 w (wsL_law_in w h)
  have hbA : ¬ mA G b := fun q => by have q : gN G ≤ b := q; omega
  have hLen : (Int32.ofNat L).toInt = (L : Int) := nI_toInt (by omega)
  obtain ⟨n, T, z, A, hg, ver, cq, fe, tms, ca, wl, wh, ac, th, xc, xm, s_, ⟨D, hM, hG⟩, hF⟩ := hJ
  refine lv_aload_n hx hb dL_law_672 rfl (lv_at hl 2 rfl) ?_
  refine lv_aload_n hx hb dL_law_673 rfl (lv_at hl 3 rfl) ?_
  refine lv_iload_n hx hb dL_law_674 rfl (lv_at hl 0 rfl) ?_
  refine lv_iconst (v := 1) hx hb dL_law_675 (by decide) ?_
  refine lv_iadd hx hb dL_law_676 ?_
  refine lv_topi (fun x_1 ex_1 => ?_)
  have ix_1 : x_1.toInt = i.toInt + 1 := ic_add ex_1 rfl kI_1 (by omega) (by omega)
  refine va_sld (i := x_1) hx hb hX hbl hbA hH.2.2 (vp_in_iff.mpr ⟨by omega, by omega⟩) dL_law_677 ?_
  rw [show x_1.toNatClampNeg = i.toNatClampNeg + 1 from by have := ic_clN (rfl : x_1.toInt = _) (by omega); have := ic_clN (rfl : i.toInt = _) (by omega); omega]
  have F_5 := hM.c0
  refine m_goi hH (va_runV (As := [.int (xs (i.toNatClampNeg + 1))]) (rest := []) ⟨hx, hb, hml, hown, hts⟩ (c_X5_times l G k rho n T z A hg ver cq fe tms ca wl wh ac th xc (ldS s_) (trS s_) (gfS s_) D f hM hG (xs (i.toNatClampNeg + 1))) (cwV 1 hts gL_law_X5_times rfl rfl rfl (by decide +kernel) ⟨Nat.le_of_ble_eq_true rfl, Nat.le_of_ble_eq_true rfl⟩) (m_preV (ci := 5) hC hH F_5 rfl) rfl rfl hl.1 rfl (lv_room (Nat.le_of_ble_eq_true rfl)) dL_law_678 ⟨by show _ ≤ 600000; omega, by show _ ≤ 7302250; omega⟩) (fun r_2 rho_4 f_3 H locs hw hH => ?_)
  obtain ⟨hu_, a1_⟩ := hw
  have hu_ : f_3 = f := hu_
  rw [hu_] at hH
  try dsimp only at a1_
  refine lv_pop hx hb dL_law_681 rfl ?_
  refine lv_aload_n hx hb dL_law_682 rfl (lv_at hl 1 rfl) ?_
  refine lv_aload_n hx hb dL_law_683 rfl (lv_at hl 3 rfl) ?_
  refine lv_iload_n hx hb dL_law_684 rfl (lv_at hl 0 rfl) ?_
  refine lv_iconst (v := 1) hx hb dL_law_685 (by decide) ?_
  refine lv_iadd hx hb dL_law_686 ?_
  refine lv_topi (fun x_6 ex_6 => ?_)
  have ix_6 : x_6.toInt = i.toInt + 1 := ic_add ex_6 rfl kI_1 (by omega) (by omega)
  refine va_sld (i := x_6) hx hb hX hbl hbA hH.2.2 (vp_in_iff.mpr ⟨by omega, by omega⟩) dL_law_687 ?_
  rw [show x_6.toNatClampNeg = i.toNatClampNeg + 1 from by have := ic_clN (rfl : x_6.toInt = _) (by omega); have := ic_clN (rfl : i.toInt = _) (by omega); omega]
  obtain ⟨_, F_10⟩ := FM.c0 hF
  refine m_goi hH (va_runV (As := [.int (xs (i.toNatClampNeg + 1))]) (rest := []) ⟨hx, hb, hml, hown, hts⟩ (c_X6_times l G h n T z A hg ver cq fe tms ca wl wh ac th xm s_ f hF (xs (i.toNatClampNeg + 1))) (cwV 1 hts gL_law_X6_times rfl rfl rfl (by decide +kernel) ⟨Nat.le_of_ble_eq_true rfl, Nat.le_of_ble_eq_true rfl⟩) (m_preV (ci := 6) hC hH F_10 rfl) rfl rfl hl.1 rfl (lv_room (Nat.le_of_ble_eq_true rfl)) dL_law_688 ⟨by show _ ≤ 600000; omega, by show _ ≤ 7302250; omega⟩) (fun r_7 rho_9 f_8 H locs hw hH => ?_)
  obtain ⟨hu_, a2_⟩ := hw
  have hu_ : f_8 = f := hu_
  rw [hu_] at hH
  try dsimp only at a2_
  have er_ : r_2.toInt = r_7.toInt := by rw [a1_, a2_]
  have hJ := JI.mk hM hG hF
  refine lv_pop hx hb dL_law_691 rfl ?_
  refine lv_goto (tgt := 857) hx hb dL_law_692 (by decide) ?_
  obtain ⟨x_11, ex_11⟩ : ∃ y : Int32, y = i + 9 := ⟨_, rfl⟩
  have ix_11 : x_11.toInt = i.toInt + 9 := ic_add ex_11 rfl kI_9 (by omega) (by omega)
  refine lv_iinc (v := x_11) (lv' := [(3, .int x_11), (2, .ref (h 0)), (1, .ref (k 0)), (0, .ref b)]) hx hb dL_law_857 hl (k := 0) rfl (by rw [ex_11]; rfl) (by decide) rfl (fun ls hl => ?_)
  refine lv_goto (tgt := 18) hx hb dL_law_860 (by decide) ?_
  exact ih_ x_11 f rho (cl_ + 0 + 0) (sl_ + 0 + 0) (by omega) (by omega) hJ hro (by omega) (by omega) (by omega) _ _ _ hH (lv_sub hl [0, 1, 2, 3] rfl)
