set_option maxHeartbeats 4000000 in
set_option maxRecDepth 100000 in
theorem c_J7_fill_53178 (l : Launch) (G : mG) (f : mF) (a N : Nat) (hN : N < 2147483648) (g : Nat → Int32) (Fq : f a = some (.inl (gk G 0, N, .inl g))) (v : Int32) : Met l yJ7_fill_53178 wsJ7_fill_53178 ({ frames := 0, cells := 0, slots := 0, locals := 0 }) (va_Pc [.ref a, .int v] (mW G f)) (va_Qv (fun (u : mS) => ∃ g2 : Nat → Int32, u.2 = va_up f a (some (.inl (gk G 0, N, .inl g2))) ∧ ∀ j, j < N → g2 j = v) (fun (u : mS) t => mW G u.2 t) (mA G)) 0 0 (mA G) := by
  refine mMet [.ref a, .int v] (cc := cJ7_fill_53178) (maxL := 4) (ret := none) (by decide) rfl (Nat.le_of_ble_eq_true rfl) ?_
  intro p e s m below meth c ls hx hb hr hml hts hown hlk hnm hC hH hl
  have hl : lv_has ls 4 [(0, .ref a), (1, .int v)] := hl
  have nIN : (nI N).toInt = (N : Int) := nI_toInt (by omega)
  refine lv_iconst (v := 0) hx hb dJ7_fill_53178_0 (by decide) ?_
  refine lv_istore_n (lv' := [(2, .int 0), (0, .ref a), (1, .int v)]) hx hb dJ7_fill_53178_1 rfl hl (by decide) rfl (fun ls hl => ?_)
  refine lv_aload_n hx hb dJ7_fill_53178_2 rfl (lv_at hl 1 rfl) ?_
  refine m_alen hx hb hC hH 0 rfl Fq (v := nI N) rfl dJ7_fill_53178_3 ?_
  refine lv_istore_n (lv' := [(3, .int (nI N)), (2, .int 0), (0, .ref a), (1, .int v)]) hx hb dJ7_fill_53178_4 rfl hl (by decide) rfl (fun ls hl => ?_)
  have loop_5 : ∀ (fuel_ : Nat) (k2 : Int32) (fL : mF) (gL : Nat → Int32) (h0_ : 0 ≤ k2.toInt) (h1_ : k2.toInt ≤ N) (FL : fL a = some (.inl (gk G 0, N, .inl gL))) (eL : fL = va_up f a (some (.inl (gk G 0, N, .inl gL)))) (al : ∀ j : Nat, (j : Int) < k2.toInt → gL j = v) (_ : ((N : Int) - k2.toInt).toNat < fuel_) (H : Heap) (locs : List Loc) (ls : Array Slot) (_ : mH G s fL H locs) (_ : lv_has ls 4 [(0, .ref a), (1, .int v), (2, .int k2), (3, .int (nI N))]), W p l e ({ frames := 0, cells := 0, slots := 0, locals := 0 } : Room) s m ([.ref a, .int v] : List Value).toArray below meth c H locs 0 0 (MQ below (va_Qv (fun (u : mS) => ∃ g2 : Nat → Int32, u.2 = va_up f a (some (.inl (gk G 0, N, .inl g2))) ∧ ∀ j, j < N → g2 j = v) (fun (u : mS) t => mW G u.2 t) (mA G)) ([.ref a, .int v] : List Value).toArray s 0 0 (mA G)) (F0 m 5 ls []) := by
    intro N_5
    induction N_5 with
    | zero => intro k2 fL gL h0_ h1_ FL eL al hN; omega
    | succ N_5 ih_5 =>
      intro k2 fL gL h0_ h1_ FL eL al hN_5 H locs ls hH hl
      refine lv_iload_n hx hb dJ7_fill_53178_5 rfl (lv_at hl 2 rfl) ?_
      refine lv_iload_n hx hb dJ7_fill_53178_6 rfl (lv_at hl 3 rfl) ?_
      refine lv_icmp_ge (tgt := 20) hx hb dJ7_fill_53178_7 (by decide) (fun c_2 => ?_) (fun c_2 => ?_)
      · skip
        have ic_2 : ((N : Int) : Int) ≤ k2.toInt := ic_le nIN rfl c_2
        exact m_vret hx hb hr hlk hC hH (fun _ => (0, 0)) ⟨_, eL, fun j hj => al j (by omega)⟩ (Nat.le_of_ble_eq_true rfl) (Nat.le_of_ble_eq_true rfl) dJ7_fill_53178_20
      · skip
        have ic_2 : ((N : Int) : Int) > k2.toInt := ic_nle nIN rfl c_2
        refine lv_aload_n hx hb dJ7_fill_53178_10 rfl (lv_at hl 0 rfl) ?_
        refine lv_iload_n hx hb dJ7_fill_53178_11 rfl (lv_at hl 2 rfl) ?_
        refine lv_iload_n hx hb dJ7_fill_53178_12 rfl (lv_at hl 1 rfl) ?_
        refine m_iast hx hb hC hH FL (vp_in_iff.mpr ⟨by omega, by omega⟩) dJ7_fill_53178_13 (fun H locs hH => ?_)
        obtain ⟨f_3, ef_3⟩ : ∃ zz_ : mF, zz_ = va_up fL a (some (.inl (gk G 0, N, .inl (upd gL k2.toNatClampNeg v)))) := ⟨_, rfl⟩
        rw [← ef_3] at hH
        have F_4 : f_3 a = some (.inl (gk G 0, N, .inl (upd gL k2.toNatClampNeg v))) := by rw [ef_3]; exact va_up_self _ _ _
        have eL_4 : f_3 = va_up f a (some (.inl (gk G 0, N, .inl (upd gL k2.toNatClampNeg v)))) := by rw [ef_3, eL]; exact bx_uu _ _ _ _
        have al_4 : ∀ j : Nat, (j : Int) < k2.toInt + 1 → (upd gL k2.toNatClampNeg v) j = v := fillI al (ic_clN (rfl : k2.toInt = _) (by omega))
        obtain ⟨x_5, ex_5⟩ : ∃ y : Int32, y = k2 + 1 := ⟨_, rfl⟩
        have ix_5 : x_5.toInt = k2.toInt + 1 := ic_add ex_5 rfl kI_1 (by omega) (by omega)
        refine lv_iinc (v := x_5) (lv' := [(2, .int x_5), (0, .ref a), (1, .int v), (3, .int (nI N))]) hx hb dJ7_fill_53178_14 hl (k := 2) rfl (by rw [ex_5]; rfl) (by decide) rfl (fun ls hl => ?_)
        refine lv_goto (tgt := 5) hx hb dJ7_fill_53178_17 (by decide) ?_
        exact ih_5 x_5 f_3 (upd gL k2.toNatClampNeg v) (by omega) (by omega) F_4 eL_4 (fun j hj => al_4 j (by omega)) (by omega) _ _ _ hH (lv_sub hl [1, 2, 0, 3] rfl)
  exact loop_5 (((N : Int) - 0).toNat + 1) 0 f g (by have := kI_0; omega) (by have := kI_0; omega) Fq (up_self Fq) (fun j hj => by have := kI_0; omega) (by have := kI_0; omega) _ _ _ hH (lv_sub hl [2, 3, 1, 0] rfl)
set_option maxHeartbeats 4000000 in
set_option maxRecDepth 100000 in
theorem c_J7_fill_d0a16 (l : Launch) (G : mG) (f : mF) (a N : Nat) (hN : N < 2147483648) (g : Nat → Int64) (Fq : f a = some (.inl (gk G 1, N, .inr (.inl g)))) (v : Int64) : Met l yJ7_fill_d0a16 wsJ7_fill_d0a16 ({ frames := 0, cells := 0, slots := 0, locals := 0 }) (va_Pc [.ref a, .long v] (mW G f)) (va_Qv (fun (u : mS) => ∃ g2 : Nat → Int64, u.2 = va_up f a (some (.inl (gk G 1, N, .inr (.inl g2)))) ∧ ∀ j, j < N → g2 j = v) (fun (u : mS) t => mW G u.2 t) (mA G)) 0 0 (mA G) := by
  refine mMet [.ref a, .long v] (cc := cJ7_fill_d0a16) (maxL := 5) (ret := none) (by decide) rfl (Nat.le_of_ble_eq_true rfl) ?_
  intro p e s m below meth c ls hx hb hr hml hts hown hlk hnm hC hH hl
  have hl : lv_has ls 5 [(0, .ref a), (1, .long v)] := hl
  have nIN : (nI N).toInt = (N : Int) := nI_toInt (by omega)
  refine lv_iconst (v := 0) hx hb dJ7_fill_d0a16_0 (by decide) ?_
  refine lv_istore_n (lv' := [(3, .int 0), (0, .ref a), (1, .long v)]) hx hb dJ7_fill_d0a16_1 rfl hl (by decide) rfl (fun ls hl => ?_)
  refine lv_aload_n hx hb dJ7_fill_d0a16_2 rfl (lv_at hl 1 rfl) ?_
  refine m_alen hx hb hC hH 1 rfl Fq (v := nI N) rfl dJ7_fill_d0a16_3 ?_
  refine lv_istore (lv' := [(4, .int (nI N)), (3, .int 0), (0, .ref a), (1, .long v)]) hx hb dJ7_fill_d0a16_4 hl (by decide) rfl (fun ls hl => ?_)
  have loop_6 : ∀ (fuel_ : Nat) (k2 : Int32) (fL : mF) (gL : Nat → Int64) (h0_ : 0 ≤ k2.toInt) (h1_ : k2.toInt ≤ N) (FL : fL a = some (.inl (gk G 1, N, .inr (.inl gL)))) (eL : fL = va_up f a (some (.inl (gk G 1, N, .inr (.inl gL))))) (al : ∀ j : Nat, (j : Int) < k2.toInt → gL j = v) (_ : ((N : Int) - k2.toInt).toNat < fuel_) (H : Heap) (locs : List Loc) (ls : Array Slot) (_ : mH G s fL H locs) (_ : lv_has ls 5 [(0, .ref a), (1, .long v), (3, .int k2), (4, .int (nI N))]), W p l e ({ frames := 0, cells := 0, slots := 0, locals := 0 } : Room) s m ([.ref a, .long v] : List Value).toArray below meth c H locs 0 0 (MQ below (va_Qv (fun (u : mS) => ∃ g2 : Nat → Int64, u.2 = va_up f a (some (.inl (gk G 1, N, .inr (.inl g2)))) ∧ ∀ j, j < N → g2 j = v) (fun (u : mS) t => mW G u.2 t) (mA G)) ([.ref a, .long v] : List Value).toArray s 0 0 (mA G)) (F0 m 6 ls []) := by
    intro N_6
    induction N_6 with
    | zero => intro k2 fL gL h0_ h1_ FL eL al hN; omega
    | succ N_6 ih_6 =>
      intro k2 fL gL h0_ h1_ FL eL al hN_6 H locs ls hH hl
      refine lv_iload_n hx hb dJ7_fill_d0a16_6 rfl (lv_at hl 2 rfl) ?_
      refine lv_iload hx hb dJ7_fill_d0a16_7 (lv_at hl 3 rfl) ?_
      refine lv_icmp_ge (tgt := 22) hx hb dJ7_fill_d0a16_9 (by decide) (fun c_2 => ?_) (fun c_2 => ?_)
      · skip
        have ic_2 : ((N : Int) : Int) ≤ k2.toInt := ic_le nIN rfl c_2
        exact m_vret hx hb hr hlk hC hH (fun _ => (0, 0)) ⟨_, eL, fun j hj => al j (by omega)⟩ (Nat.le_of_ble_eq_true rfl) (Nat.le_of_ble_eq_true rfl) dJ7_fill_d0a16_22
      · skip
        have ic_2 : ((N : Int) : Int) > k2.toInt := ic_nle nIN rfl c_2
        refine lv_aload_n hx hb dJ7_fill_d0a16_12 rfl (lv_at hl 0 rfl) ?_
        refine lv_iload_n hx hb dJ7_fill_d0a16_13 rfl (lv_at hl 2 rfl) ?_
        refine lv_lload_n hx hb dJ7_fill_d0a16_14 rfl (lv_at hl 1 rfl) ?_
        refine m_last hx hb hC hH FL (vp_in_iff.mpr ⟨by omega, by omega⟩) dJ7_fill_d0a16_15 (fun H locs hH => ?_)
        obtain ⟨f_3, ef_3⟩ : ∃ zz_ : mF, zz_ = va_up fL a (some (.inl (gk G 1, N, .inr (.inl (vp_updL gL k2.toNatClampNeg v))))) := ⟨_, rfl⟩
        rw [← ef_3] at hH
        have F_4 : f_3 a = some (.inl (gk G 1, N, .inr (.inl (vp_updL gL k2.toNatClampNeg v)))) := by rw [ef_3]; exact va_up_self _ _ _
        have eL_4 : f_3 = va_up f a (some (.inl (gk G 1, N, .inr (.inl (vp_updL gL k2.toNatClampNeg v))))) := by rw [ef_3, eL]; exact bx_uu _ _ _ _
        have al_4 : ∀ j : Nat, (j : Int) < k2.toInt + 1 → (vp_updL gL k2.toNatClampNeg v) j = v := fillL al (ic_clN (rfl : k2.toInt = _) (by omega))
        obtain ⟨x_5, ex_5⟩ : ∃ y : Int32, y = k2 + 1 := ⟨_, rfl⟩
        have ix_5 : x_5.toInt = k2.toInt + 1 := ic_add ex_5 rfl kI_1 (by omega) (by omega)
        refine lv_iinc (v := x_5) (lv' := [(3, .int x_5), (0, .ref a), (1, .long v), (4, .int (nI N))]) hx hb dJ7_fill_d0a16_16 hl (k := 2) rfl (by rw [ex_5]; rfl) (by decide) rfl (fun ls hl => ?_)
        refine lv_goto (tgt := 6) hx hb dJ7_fill_d0a16_19 (by decide) ?_
        exact ih_6 x_5 f_3 (vp_updL gL k2.toNatClampNeg v) (by omega) (by omega) F_4 eL_4 (fun j hj => al_4 j (by omega)) (by omega) _ _ _ hH (lv_sub hl [1, 2, 0, 3] rfl)
  exact loop_6 (((N : Int) - 0).toNat + 1) 0 f g (by have := kI_0; omega) (by have := kI_0; omega) Fq (up_self Fq) (fun j hj => by have := kI_0; omega) (by have := kI_0; omega) _ _ _ hH (lv_sub hl [2, 3, 1, 0] rfl)
set_option maxHeartbeats 4000000 in
set_option maxRecDepth 100000 in
theorem c_X4_noteRead (l : Launch) (G : mG) (k : Nat → Nat) (f : mF) (i : Nat) (hi : i < 3) (hk : ∀ a b, a < 41 → b < 41 → a ≠ b → k a ≠ k b) (l_ : List Nat) (hT0 : TQ G k i l_ f) (o ff : Int32) (ho : 0 ≤ o.toInt ∧ o.toInt < 24) (hff : 0 ≤ ff.toInt ∧ ff.toInt < 8) : Met l yX4_noteRead wsX4_noteRead ({ frames := 0, cells := 0, slots := 0, locals := 0 }) (va_Pc [.ref (k (5 + 8 * i + 1)), .int o, .int ff] (mW G f)) (va_Qv (fun (u : mS) => TQ G k i (tchL (2 * (8 * o.toNatClampNeg + ff.toNatClampNeg)) l_) u.2 ∧ ∀ a, (∀ c, 1 ≤ c → c ≤ 4 → a ≠ k (5 + 8 * i + c)) → u.2 a = f a) (fun (u : mS) t => mW G u.2 t) (mA G)) 0 0 (mA G) := by
  refine mMet [.ref (k (5 + 8 * i + 1)), .int o, .int ff] (cc := cX4_noteRead) (maxL := 3) (ret := none) (by decide) rfl (Nat.le_of_ble_eq_true rfl) ?_
  intro p e s m below meth c ls hx hb hr hml hts hown hlk hnm hC hH hl
  have hl : lv_has ls 3 [(0, .ref (k (5 + 8 * i + 1))), (1, .int o), (2, .int ff)] := hl
  obtain ⟨e_, en_, rb_, cb_, F1_, F2_, F3_, F4_, hT⟩ := hT0
  have hfr_ : ∀ a, (∀ c, 1 ≤ c → c ≤ 4 → a ≠ k (5 + 8 * i + c)) → f a = f a := fun _ _ => rfl
  have hlen_ := len_b hT.1
  have ct_ : e_.1.toInt = ((l_.length : Nat) : Int) := by rw [hT.2.1]; exact nI_toInt (by omega)
  have ol_ := ocn_le l_
  have cg_ : e_.2.toInt = ((ocn l_ : Nat) : Int) := by rw [hT.2.2.1]; exact nI_toInt (by omega)
  have cl_o := ic_clN (rfl : o.toInt = _) (by omega)
  have cl_ff := ic_clN (rfl : ff.toInt = _) (by omega)
  refine lv_aload_n hx hb dX4_noteRead_0 rfl (lv_at hl 0 rfl) ?_
  refine m_get (ci := 4) (v := .ref (k (5 + 8 * i + 3))) (C := RX4) (T := TX4) (N := 5) hx hb hC hH hts in_X4_noteRead_X4 hown F1_ rfl 3 (by decide) (hts (.fieldLink RX4 15 "LazyState$Trace" "readBits" "[I") (by decide +kernel)) rfl dX4_noteRead_1 ?_
  refine lv_iload_n hx hb dX4_noteRead_4 rfl (lv_at hl 1 rfl) ?_
  refine m_iald hx hb hC hH F3_ (vp_in_iff.mpr ⟨by omega, by omega⟩) dX4_noteRead_5 ?_
  refine lv_topi (fun x_1 ex_1 => ?_)
  refine lv_iconst (v := 1) hx hb dX4_noteRead_6 (by decide) ?_
  refine lv_iload_n hx hb dX4_noteRead_7 rfl (lv_at hl 2 rfl) ?_
  refine lv_ishl hx hb dX4_noteRead_8 ?_
  refine lv_topi (fun x_2 ex_2 => ?_)
  refine lv_iand hx hb dX4_noteRead_9 ?_
  refine lv_topi (fun x_3 ex_3 => ?_)
  refine lv_if_ne (tgt := 52) hx hb dX4_noteRead_10 (by decide) (fun c_4 => ?_) (fun c_4 => ?_)
  · skip
    have ic_4 : (x_3.toInt : Int) ≠ 0 := ic_ne rfl kI_0 c_4
    have bt_ := bt_and0 (x := rb_ o.toNatClampNeg) (m := ff.toNatClampNeg) (by omega)
    rw [nI_ofC (by omega)] at bt_
    have mm_ := hT.2.2.2.2.1 o.toNatClampNeg (by omega) ff.toNatClampNeg (by omega)
    have in_ : (2 * (8 * o.toNatClampNeg + ff.toNatClampNeg)) ∈ l_ := mm_.mp (by cases hq_ : btO (rb_ o.toNatClampNeg) ff.toNatClampNeg with | true => rfl | false => exact absurd (by have w_ := bt_.mpr hq_; rw [← ex_2, ← ex_1, ← ex_3] at w_; exact w_) c_4)
    exact m_vret hx hb hr hlk hC hH (fun _ => (0, 0)) ⟨by rw [show tchL (2 * (8 * o.toNatClampNeg + ff.toNatClampNeg)) l_ = l_ from tch_in in_]; exact ⟨e_, en_, rb_, cb_, F1_, F2_, F3_, F4_, hT⟩, hfr_⟩ (Nat.le_of_ble_eq_true rfl) (Nat.le_of_ble_eq_true rfl) dX4_noteRead_52
  · skip
    have ic_4 : (x_3.toInt : Int) = 0 := ic_eq rfl kI_0 c_4
    have bt_ := bt_and0 (x := rb_ o.toNatClampNeg) (m := ff.toNatClampNeg) (by omega)
    rw [nI_ofC (by omega)] at bt_
    have mm_ := hT.2.2.2.2.1 o.toNatClampNeg (by omega) ff.toNatClampNeg (by omega)
    have nin_ : (2 * (8 * o.toNatClampNeg + ff.toNatClampNeg)) ∉ l_ := fun z_ => by have w_ := mm_.mpr z_; rw [bt_.mp (by rw [← ex_2, ← ex_1, ← ex_3]; exact c_4)] at w_; cases w_
    have hl2_ := len_b (tch_out nin_ ▸ okTc_tch hT.1 (show (2 * (8 * o.toNatClampNeg + ff.toNatClampNeg)) < 384 from by omega))
    rw [List.length_append] at hl2_
    have hl2_ : l_.length + 1 ≤ 384 := hl2_
    refine lv_aload_n hx hb dX4_noteRead_13 rfl (lv_at hl 0 rfl) ?_
    refine m_get (ci := 4) (v := .ref (k (5 + 8 * i + 3))) (C := RX4) (T := TX4) (N := 5) hx hb hC hH hts in_X4_noteRead_X4 hown F1_ rfl 3 (by decide) (hts (.fieldLink RX4 15 "LazyState$Trace" "readBits" "[I") (by decide +kernel)) rfl dX4_noteRead_14 ?_
    refine lv_iload_n hx hb dX4_noteRead_17 rfl (lv_at hl 1 rfl) ?_
    refine lv_dup2_11 hx hb dX4_noteRead_18 rfl rfl ?_
    refine m_iald hx hb hC hH F3_ (vp_in_iff.mpr ⟨by omega, by omega⟩) dX4_noteRead_19 ?_
    refine lv_topi (fun x_5 ex_5 => ?_)
    refine lv_iconst (v := 1) hx hb dX4_noteRead_20 (by decide) ?_
    refine lv_iload_n hx hb dX4_noteRead_21 rfl (lv_at hl 2 rfl) ?_
    refine lv_ishl hx hb dX4_noteRead_22 ?_
    refine lv_topi (fun x_6 ex_6 => ?_)
    refine lv_ior hx hb dX4_noteRead_23 ?_
    refine lv_topi (fun x_7 ex_7 => ?_)
    refine m_iast hx hb hC hH F3_ (vp_in_iff.mpr ⟨by omega, by omega⟩) dX4_noteRead_24 (fun H locs hH => ?_)
    obtain ⟨f_8, ef_8⟩ : ∃ zz_ : mF, zz_ = va_up f (k (5 + 8 * i + 3)) (some (.inl (gk G 0, 24, .inl (upd rb_ o.toNatClampNeg x_7)))) := ⟨_, rfl⟩
    rw [← ef_8] at hH
    have F_9 := upk F1_ ef_8 (hk _ _ (by omega) (by omega) (by omega))
    have F_10 := upk F2_ ef_8 (hk _ _ (by omega) (by omega) (by omega))
    have F_11 : f_8 (k (5 + 8 * i + 3)) = some (.inl (gk G 0, 24, .inl (upd rb_ o.toNatClampNeg x_7))) := by rw [ef_8]; exact va_up_self _ _ _
    have F_12 := upk F4_ ef_8 (hk _ _ (by omega) (by omega) (by omega))
    have hfr_ : ∀ a, (∀ c, 1 ≤ c → c ≤ 4 → a ≠ k (5 + 8 * i + c)) → f_8 a = f a := fun a ha => (upn ef_8 (ha 3 (by omega) (by omega))).trans (hfr_ a ha)
    refine lv_aload_n hx hb dX4_noteRead_25 rfl (lv_at hl 0 rfl) ?_
    refine m_get (ci := 4) (v := .ref (k (5 + 8 * i + 2))) (C := RX4) (T := TX4) (N := 5) hx hb hC hH hts in_X4_noteRead_X4 hown F_9 rfl 0 (by decide) (hts (.fieldLink RX4 9 "LazyState$Trace" "entries" "[I") (by decide +kernel)) rfl dX4_noteRead_26 ?_
    refine lv_aload_n hx hb dX4_noteRead_29 rfl (lv_at hl 0 rfl) ?_
    refine m_get (ci := 4) (v := .int e_.1) (C := RX4) (T := TX4) (N := 5) hx hb hC hH hts in_X4_noteRead_X4 hown F_9 rfl 1 (by decide) (hts (.fieldLink RX4 21 "LazyState$Trace" "count" "I") (by decide +kernel)) rfl dX4_noteRead_30 ?_
    refine lv_iconst (v := 2) hx hb dX4_noteRead_33 (by decide) ?_
    refine lv_bipush (v := 8) hx hb dX4_noteRead_34 (by decide) ?_
    refine lv_iload_n hx hb dX4_noteRead_36 rfl (lv_at hl 1 rfl) ?_
    refine lv_imul hx hb dX4_noteRead_37 ?_
    refine lv_topi (fun x_13 ex_13 => ?_)
    have ix_13 : x_13.toInt = 8 * o.toInt := ic_mul ex_13 kI_8 rfl (by omega) (by omega)
    refine lv_iload_n hx hb dX4_noteRead_38 rfl (lv_at hl 2 rfl) ?_
    refine lv_iadd hx hb dX4_noteRead_39 ?_
    refine lv_topi (fun x_14 ex_14 => ?_)
    have ix_14 : x_14.toInt = x_13.toInt + ff.toInt := ic_add ex_14 rfl rfl (by omega) (by omega)
    refine lv_imul hx hb dX4_noteRead_40 ?_
    refine lv_topi (fun x_15 ex_15 => ?_)
    have ix_15 : x_15.toInt = 2 * x_14.toInt := ic_mul ex_15 kI_2 rfl (by omega) (by omega)
    refine m_iast hx hb hC hH F_10 (vp_in_iff.mpr (by rw [ct_]; exact ⟨by omega, by omega⟩)) dX4_noteRead_41 (fun H locs hH => ?_)
    obtain ⟨f_16, ef_16⟩ : ∃ zz_ : mF, zz_ = va_up f_8 (k (5 + 8 * i + 2)) (some (.inl (gk G 0, 384, .inl (upd en_ ((e_.1).toNatClampNeg) x_15)))) := ⟨_, rfl⟩
    rw [← ef_16] at hH
    have F_17 := upk F_9 ef_16 (hk _ _ (by omega) (by omega) (by omega))
    have F_18 : f_16 (k (5 + 8 * i + 2)) = some (.inl (gk G 0, 384, .inl (upd en_ e_.1.toNatClampNeg x_15))) := by rw [ef_16]; exact va_up_self _ _ _
    have F_19 := upk F_11 ef_16 (hk _ _ (by omega) (by omega) (by omega))
    have F_20 := upk F_12 ef_16 (hk _ _ (by omega) (by omega) (by omega))
    have hfr_ : ∀ a, (∀ c, 1 ≤ c → c ≤ 4 → a ≠ k (5 + 8 * i + c)) → f_16 a = f a := fun a ha => (upn ef_16 (ha 2 (by omega) (by omega))).trans (hfr_ a ha)
    refine lv_aload_n hx hb dX4_noteRead_42 rfl (lv_at hl 0 rfl) ?_
    refine lv_dup hx hb dX4_noteRead_43 rfl ?_
    refine m_get (ci := 4) (v := .int e_.1) (C := RX4) (T := TX4) (N := 5) hx hb hC hH hts in_X4_noteRead_X4 hown F_17 rfl 1 (by decide) (hts (.fieldLink RX4 21 "LazyState$Trace" "count" "I") (by decide +kernel)) rfl dX4_noteRead_44 ?_
    refine lv_iconst (v := 1) hx hb dX4_noteRead_47 (by decide) ?_
    refine lv_iadd hx hb dX4_noteRead_48 ?_
    refine lv_topi (fun x_21 ex_21 => ?_)
    have ix_21 : x_21.toInt = ((l_.length : Nat) : Int) + 1 := ic_add ex_21 ct_ kI_1 (by omega) (by omega)
    refine m_put (ci := 4) (v := .int x_21) (C := RX4) (T := TX4) (N := 5) hx hb hC hH hts in_X4_noteRead_X4 tyX4 tyX4_ok nmX4 hown F_17 rfl 1 (by decide) (hts (.fieldLink RX4 21 "LazyState$Trace" "count" "I") (by decide +kernel)) rfl rfl rfl (Nat.le_of_ble_eq_true rfl) dX4_noteRead_49 (fun H locs hH => ?_)
    have hH : mH G s (va_up f_16 (k (5 + 8 * i + 1)) (some (.inr (4, [.ref (k (5 + 8 * i + 2)), .int x_21, .int e_.2, .ref (k (5 + 8 * i + 3)), .ref (k (5 + 8 * i + 4))])))) H locs := hH
    obtain ⟨f_22, ef_22⟩ : ∃ zz_ : mF, zz_ = va_up f_16 (k (5 + 8 * i + 1)) (some (.inr (4, [.ref (k (5 + 8 * i + 2)), .int x_21, .int e_.2, .ref (k (5 + 8 * i + 3)), .ref (k (5 + 8 * i + 4))]))) := ⟨_, rfl⟩
    rw [← ef_22] at hH
    have F_23 : f_22 (k (5 + 8 * i + 1)) = some (.inr (4, [.ref (k (5 + 8 * i + 2)), .int x_21, .int e_.2, .ref (k (5 + 8 * i + 3)), .ref (k (5 + 8 * i + 4))])) := by rw [ef_22]; exact va_up_self _ _ _
    have F_24 := upk F_18 ef_22 (hk _ _ (by omega) (by omega) (by omega))
    have F_25 := upk F_19 ef_22 (hk _ _ (by omega) (by omega) (by omega))
    have F_26 := upk F_20 ef_22 (hk _ _ (by omega) (by omega) (by omega))
    have hfr_ : ∀ a, (∀ c, 1 ≤ c → c ≤ 4 → a ≠ k (5 + 8 * i + c)) → f_22 a = f a := fun a ha => (upn ef_22 (ha 1 (by omega) (by omega))).trans (hfr_ a ha)
    exact m_vret hx hb hr hlk hC hH (fun _ => (0, 0)) ⟨by rw [show tchL (2 * (8 * o.toNatClampNeg + ff.toNatClampNeg)) l_ = l_ ++ [(2 * (8 * o.toNatClampNeg + ff.toNatClampNeg))] from tch_out nin_]; exact ⟨(x_21, e_.2), _, _, _, F_23, F_24, F_25, F_26, (by have w_ := hT.add (en2 := (upd en_ e_.1.toNatClampNeg x_15)) (rb2 := (upd rb_ o.toNatClampNeg x_7)) (cb2 := cb_) (c := (2 * (8 * o.toNatClampNeg + ff.toNatClampNeg))) (o := o.toNatClampNeg) (j := ff.toNatClampNeg) (by omega) (by omega) nin_ (fun i_ hi_ => pk_un (by have ci_ : e_.1.toNatClampNeg = l_.length := (by have := ct_; have := ic_clN (rfl : e_.1.toInt = _) (by omega); omega); omega)) (by rw [show l_.length = e_.1.toNatClampNeg from (by have := ct_; have := ic_clN (rfl : e_.1.toInt = _) (by omega); omega)]; exact pk_us.trans (ic_inj (by have := True.intro; omega) (by omega))) (Or.inl ⟨rfl, rfl, fun p_ hp_ => pk_un hp_, (by unfold upd; rw [if_pos rfl, ex_7, ex_5, ex_6, nI_ofC (by omega)])⟩); rw [← (show x_21 = nI (l_.length + 1) from ic_inj (by omega) (by omega)), ← (show e_.2 = nI (ocn l_ + (2 * (8 * o.toNatClampNeg + ff.toNatClampNeg)) % 2) from (by rw [show ocn l_ + (2 * (8 * o.toNatClampNeg + ff.toNatClampNeg)) % 2 = ocn l_ from by omega]; exact hT.2.2.1))] at w_; exact w_)⟩, hfr_⟩ (Nat.le_of_ble_eq_true rfl) (Nat.le_of_ble_eq_true rfl) dX4_noteRead_52
set_option maxHeartbeats 4000000 in
set_option maxRecDepth 100000 in
theorem c_X4_noteChanged (l : Launch) (G : mG) (k : Nat → Nat) (f : mF) (i : Nat) (hi : i < 3) (hk : ∀ a b, a < 41 → b < 41 → a ≠ b → k a ≠ k b) (l_ : List Nat) (hT0 : TQ G k i l_ f) (o ff : Int32) (ho : 0 ≤ o.toInt ∧ o.toInt < 24) (hff : 0 ≤ ff.toInt ∧ ff.toInt < 8) : Met l yX4_noteChanged wsX4_noteChanged ({ frames := 0, cells := 0, slots := 0, locals := 0 }) (va_Pc [.ref (k (5 + 8 * i + 1)), .int o, .int ff] (mW G f)) (va_Qv (fun (u : mS) => TQ G k i (tchL (2 * (8 * o.toNatClampNeg + ff.toNatClampNeg) + 1) l_) u.2 ∧ ∀ a, (∀ c, 1 ≤ c → c ≤ 4 → a ≠ k (5 + 8 * i + c)) → u.2 a = f a) (fun (u : mS) t => mW G u.2 t) (mA G)) 0 0 (mA G) := by
  refine mMet [.ref (k (5 + 8 * i + 1)), .int o, .int ff] (cc := cX4_noteChanged) (maxL := 3) (ret := none) (by decide) rfl (Nat.le_of_ble_eq_true rfl) ?_
  intro p e s m below meth c ls hx hb hr hml hts hown hlk hnm hC hH hl
  have hl : lv_has ls 3 [(0, .ref (k (5 + 8 * i + 1))), (1, .int o), (2, .int ff)] := hl
  obtain ⟨e_, en_, rb_, cb_, F1_, F2_, F3_, F4_, hT⟩ := hT0
  have hfr_ : ∀ a, (∀ c, 1 ≤ c → c ≤ 4 → a ≠ k (5 + 8 * i + c)) → f a = f a := fun _ _ => rfl
  have hlen_ := len_b hT.1
  have ct_ : e_.1.toInt = ((l_.length : Nat) : Int) := by rw [hT.2.1]; exact nI_toInt (by omega)
  have ol_ := ocn_le l_
  have cg_ : e_.2.toInt = ((ocn l_ : Nat) : Int) := by rw [hT.2.2.1]; exact nI_toInt (by omega)
  have cl_o := ic_clN (rfl : o.toInt = _) (by omega)
  have cl_ff := ic_clN (rfl : ff.toInt = _) (by omega)
  refine lv_aload_n hx hb dX4_noteChanged_0 rfl (lv_at hl 0 rfl) ?_
  refine m_get (ci := 4) (v := .ref (k (5 + 8 * i + 4))) (C := RX4) (T := TX4) (N := 5) hx hb hC hH hts in_X4_noteChanged_X4 hown F1_ rfl 4 (by decide) (hts (.fieldLink RX4 18 "LazyState$Trace" "changedBits" "[I") (by decide +kernel)) rfl dX4_noteChanged_1 ?_
  refine lv_iload_n hx hb dX4_noteChanged_4 rfl (lv_at hl 1 rfl) ?_
  refine m_iald hx hb hC hH F4_ (vp_in_iff.mpr ⟨by omega, by omega⟩) dX4_noteChanged_5 ?_
  refine lv_topi (fun x_1 ex_1 => ?_)
  refine lv_iconst (v := 1) hx hb dX4_noteChanged_6 (by decide) ?_
  refine lv_iload_n hx hb dX4_noteChanged_7 rfl (lv_at hl 2 rfl) ?_
  refine lv_ishl hx hb dX4_noteChanged_8 ?_
  refine lv_topi (fun x_2 ex_2 => ?_)
  refine lv_iand hx hb dX4_noteChanged_9 ?_
  refine lv_topi (fun x_3 ex_3 => ?_)
  refine lv_if_ne (tgt := 64) hx hb dX4_noteChanged_10 (by decide) (fun c_4 => ?_) (fun c_4 => ?_)
  · skip
    have ic_4 : (x_3.toInt : Int) ≠ 0 := ic_ne rfl kI_0 c_4
    have bt_ := bt_and0 (x := cb_ o.toNatClampNeg) (m := ff.toNatClampNeg) (by omega)
    rw [nI_ofC (by omega)] at bt_
    have mm_ := hT.2.2.2.2.2 o.toNatClampNeg (by omega) ff.toNatClampNeg (by omega)
    have in_ : (2 * (8 * o.toNatClampNeg + ff.toNatClampNeg) + 1) ∈ l_ := mm_.mp (by cases hq_ : btO (cb_ o.toNatClampNeg) ff.toNatClampNeg with | true => rfl | false => exact absurd (by have w_ := bt_.mpr hq_; rw [← ex_2, ← ex_1, ← ex_3] at w_; exact w_) c_4)
    exact m_vret hx hb hr hlk hC hH (fun _ => (0, 0)) ⟨by rw [show tchL (2 * (8 * o.toNatClampNeg + ff.toNatClampNeg) + 1) l_ = l_ from tch_in in_]; exact ⟨e_, en_, rb_, cb_, F1_, F2_, F3_, F4_, hT⟩, hfr_⟩ (Nat.le_of_ble_eq_true rfl) (Nat.le_of_ble_eq_true rfl) dX4_noteChanged_64
  · skip
    have ic_4 : (x_3.toInt : Int) = 0 := ic_eq rfl kI_0 c_4
    have bt_ := bt_and0 (x := cb_ o.toNatClampNeg) (m := ff.toNatClampNeg) (by omega)
    rw [nI_ofC (by omega)] at bt_
    have mm_ := hT.2.2.2.2.2 o.toNatClampNeg (by omega) ff.toNatClampNeg (by omega)
    have nin_ : (2 * (8 * o.toNatClampNeg + ff.toNatClampNeg) + 1) ∉ l_ := fun z_ => by have w_ := mm_.mpr z_; rw [bt_.mp (by rw [← ex_2, ← ex_1, ← ex_3]; exact c_4)] at w_; cases w_
    have hl2_ := len_b (tch_out nin_ ▸ okTc_tch hT.1 (show (2 * (8 * o.toNatClampNeg + ff.toNatClampNeg) + 1) < 384 from by omega))
    rw [List.length_append] at hl2_
    have hl2_ : l_.length + 1 ≤ 384 := hl2_
    refine lv_aload_n hx hb dX4_noteChanged_13 rfl (lv_at hl 0 rfl) ?_
    refine m_get (ci := 4) (v := .ref (k (5 + 8 * i + 4))) (C := RX4) (T := TX4) (N := 5) hx hb hC hH hts in_X4_noteChanged_X4 hown F1_ rfl 4 (by decide) (hts (.fieldLink RX4 18 "LazyState$Trace" "changedBits" "[I") (by decide +kernel)) rfl dX4_noteChanged_14 ?_
    refine lv_iload_n hx hb dX4_noteChanged_17 rfl (lv_at hl 1 rfl) ?_
    refine lv_dup2_11 hx hb dX4_noteChanged_18 rfl rfl ?_
    refine m_iald hx hb hC hH F4_ (vp_in_iff.mpr ⟨by omega, by omega⟩) dX4_noteChanged_19 ?_
    refine lv_topi (fun x_5 ex_5 => ?_)
    refine lv_iconst (v := 1) hx hb dX4_noteChanged_20 (by decide) ?_
    refine lv_iload_n hx hb dX4_noteChanged_21 rfl (lv_at hl 2 rfl) ?_
    refine lv_ishl hx hb dX4_noteChanged_22 ?_
    refine lv_topi (fun x_6 ex_6 => ?_)
    refine lv_ior hx hb dX4_noteChanged_23 ?_
    refine lv_topi (fun x_7 ex_7 => ?_)
    refine m_iast hx hb hC hH F4_ (vp_in_iff.mpr ⟨by omega, by omega⟩) dX4_noteChanged_24 (fun H locs hH => ?_)
    obtain ⟨f_8, ef_8⟩ : ∃ zz_ : mF, zz_ = va_up f (k (5 + 8 * i + 4)) (some (.inl (gk G 0, 24, .inl (upd cb_ o.toNatClampNeg x_7)))) := ⟨_, rfl⟩
    rw [← ef_8] at hH
    have F_9 := upk F1_ ef_8 (hk _ _ (by omega) (by omega) (by omega))
    have F_10 := upk F2_ ef_8 (hk _ _ (by omega) (by omega) (by omega))
    have F_11 := upk F3_ ef_8 (hk _ _ (by omega) (by omega) (by omega))
    have F_12 : f_8 (k (5 + 8 * i + 4)) = some (.inl (gk G 0, 24, .inl (upd cb_ o.toNatClampNeg x_7))) := by rw [ef_8]; exact va_up_self _ _ _
    have hfr_ : ∀ a, (∀ c, 1 ≤ c → c ≤ 4 → a ≠ k (5 + 8 * i + c)) → f_8 a = f a := fun a ha => (upn ef_8 (ha 4 (by omega) (by omega))).trans (hfr_ a ha)
    refine lv_aload_n hx hb dX4_noteChanged_25 rfl (lv_at hl 0 rfl) ?_
    refine m_get (ci := 4) (v := .ref (k (5 + 8 * i + 2))) (C := RX4) (T := TX4) (N := 5) hx hb hC hH hts in_X4_noteChanged_X4 hown F_9 rfl 0 (by decide) (hts (.fieldLink RX4 9 "LazyState$Trace" "entries" "[I") (by decide +kernel)) rfl dX4_noteChanged_26 ?_
    refine lv_aload_n hx hb dX4_noteChanged_29 rfl (lv_at hl 0 rfl) ?_
    refine m_get (ci := 4) (v := .int e_.1) (C := RX4) (T := TX4) (N := 5) hx hb hC hH hts in_X4_noteChanged_X4 hown F_9 rfl 1 (by decide) (hts (.fieldLink RX4 21 "LazyState$Trace" "count" "I") (by decide +kernel)) rfl dX4_noteChanged_30 ?_
    refine lv_iconst (v := 2) hx hb dX4_noteChanged_33 (by decide) ?_
    refine lv_bipush (v := 8) hx hb dX4_noteChanged_34 (by decide) ?_
    refine lv_iload_n hx hb dX4_noteChanged_36 rfl (lv_at hl 1 rfl) ?_
    refine lv_imul hx hb dX4_noteChanged_37 ?_
    refine lv_topi (fun x_13 ex_13 => ?_)
    have ix_13 : x_13.toInt = 8 * o.toInt := ic_mul ex_13 kI_8 rfl (by omega) (by omega)
    refine lv_iload_n hx hb dX4_noteChanged_38 rfl (lv_at hl 2 rfl) ?_
    refine lv_iadd hx hb dX4_noteChanged_39 ?_
    refine lv_topi (fun x_14 ex_14 => ?_)
    have ix_14 : x_14.toInt = x_13.toInt + ff.toInt := ic_add ex_14 rfl rfl (by omega) (by omega)
    refine lv_imul hx hb dX4_noteChanged_40 ?_
    refine lv_topi (fun x_15 ex_15 => ?_)
    have ix_15 : x_15.toInt = 2 * x_14.toInt := ic_mul ex_15 kI_2 rfl (by omega) (by omega)
    refine lv_iconst (v := 1) hx hb dX4_noteChanged_41 (by decide) ?_
    refine lv_iadd hx hb dX4_noteChanged_42 ?_
    refine lv_topi (fun x_16 ex_16 => ?_)
    have ix_16 : x_16.toInt = x_15.toInt + 1 := ic_add ex_16 rfl kI_1 (by omega) (by omega)
    refine m_iast hx hb hC hH F_10 (vp_in_iff.mpr (by rw [ct_]; exact ⟨by omega, by omega⟩)) dX4_noteChanged_43 (fun H locs hH => ?_)
    obtain ⟨f_17, ef_17⟩ : ∃ zz_ : mF, zz_ = va_up f_8 (k (5 + 8 * i + 2)) (some (.inl (gk G 0, 384, .inl (upd en_ ((e_.1).toNatClampNeg) x_16)))) := ⟨_, rfl⟩
    rw [← ef_17] at hH
    have F_18 := upk F_9 ef_17 (hk _ _ (by omega) (by omega) (by omega))
    have F_19 : f_17 (k (5 + 8 * i + 2)) = some (.inl (gk G 0, 384, .inl (upd en_ e_.1.toNatClampNeg x_16))) := by rw [ef_17]; exact va_up_self _ _ _
    have F_20 := upk F_11 ef_17 (hk _ _ (by omega) (by omega) (by omega))
    have F_21 := upk F_12 ef_17 (hk _ _ (by omega) (by omega) (by omega))
    have hfr_ : ∀ a, (∀ c, 1 ≤ c → c ≤ 4 → a ≠ k (5 + 8 * i + c)) → f_17 a = f a := fun a ha => (upn ef_17 (ha 2 (by omega) (by omega))).trans (hfr_ a ha)
    refine lv_aload_n hx hb dX4_noteChanged_44 rfl (lv_at hl 0 rfl) ?_
    refine lv_dup hx hb dX4_noteChanged_45 rfl ?_
    refine m_get (ci := 4) (v := .int e_.1) (C := RX4) (T := TX4) (N := 5) hx hb hC hH hts in_X4_noteChanged_X4 hown F_18 rfl 1 (by decide) (hts (.fieldLink RX4 21 "LazyState$Trace" "count" "I") (by decide +kernel)) rfl dX4_noteChanged_46 ?_
    refine lv_iconst (v := 1) hx hb dX4_noteChanged_49 (by decide) ?_
    refine lv_iadd hx hb dX4_noteChanged_50 ?_
    refine lv_topi (fun x_22 ex_22 => ?_)
    have ix_22 : x_22.toInt = ((l_.length : Nat) : Int) + 1 := ic_add ex_22 ct_ kI_1 (by omega) (by omega)
    refine m_put (ci := 4) (v := .int x_22) (C := RX4) (T := TX4) (N := 5) hx hb hC hH hts in_X4_noteChanged_X4 tyX4 tyX4_ok nmX4 hown F_18 rfl 1 (by decide) (hts (.fieldLink RX4 21 "LazyState$Trace" "count" "I") (by decide +kernel)) rfl rfl rfl (Nat.le_of_ble_eq_true rfl) dX4_noteChanged_51 (fun H locs hH => ?_)
    have hH : mH G s (va_up f_17 (k (5 + 8 * i + 1)) (some (.inr (4, [.ref (k (5 + 8 * i + 2)), .int x_22, .int e_.2, .ref (k (5 + 8 * i + 3)), .ref (k (5 + 8 * i + 4))])))) H locs := hH
    obtain ⟨f_23, ef_23⟩ : ∃ zz_ : mF, zz_ = va_up f_17 (k (5 + 8 * i + 1)) (some (.inr (4, [.ref (k (5 + 8 * i + 2)), .int x_22, .int e_.2, .ref (k (5 + 8 * i + 3)), .ref (k (5 + 8 * i + 4))]))) := ⟨_, rfl⟩
    rw [← ef_23] at hH
    have F_24 : f_23 (k (5 + 8 * i + 1)) = some (.inr (4, [.ref (k (5 + 8 * i + 2)), .int x_22, .int e_.2, .ref (k (5 + 8 * i + 3)), .ref (k (5 + 8 * i + 4))])) := by rw [ef_23]; exact va_up_self _ _ _
    have F_25 := upk F_19 ef_23 (hk _ _ (by omega) (by omega) (by omega))
    have F_26 := upk F_20 ef_23 (hk _ _ (by omega) (by omega) (by omega))
    have F_27 := upk F_21 ef_23 (hk _ _ (by omega) (by omega) (by omega))
    have hfr_ : ∀ a, (∀ c, 1 ≤ c → c ≤ 4 → a ≠ k (5 + 8 * i + c)) → f_23 a = f a := fun a ha => (upn ef_23 (ha 1 (by omega) (by omega))).trans (hfr_ a ha)
    refine lv_aload_n hx hb dX4_noteChanged_54 rfl (lv_at hl 0 rfl) ?_
    refine lv_dup hx hb dX4_noteChanged_55 rfl ?_
    refine m_get (ci := 4) (v := .int e_.2) (C := RX4) (T := TX4) (N := 5) hx hb hC hH hts in_X4_noteChanged_X4 hown F_24 rfl 2 (by decide) (hts (.fieldLink RX4 25 "LazyState$Trace" "changedCount" "I") (by decide +kernel)) rfl dX4_noteChanged_56 ?_
    refine lv_iconst (v := 1) hx hb dX4_noteChanged_59 (by decide) ?_
    refine lv_iadd hx hb dX4_noteChanged_60 ?_
    refine lv_topi (fun x_28 ex_28 => ?_)
    have ix_28 : x_28.toInt = ((ocn l_ : Nat) : Int) + 1 := ic_add ex_28 cg_ kI_1 (by omega) (by omega)
    refine m_put (ci := 4) (v := .int x_28) (C := RX4) (T := TX4) (N := 5) hx hb hC hH hts in_X4_noteChanged_X4 tyX4 tyX4_ok nmX4 hown F_24 rfl 2 (by decide) (hts (.fieldLink RX4 25 "LazyState$Trace" "changedCount" "I") (by decide +kernel)) rfl rfl rfl (Nat.le_of_ble_eq_true rfl) dX4_noteChanged_61 (fun H locs hH => ?_)
    have hH : mH G s (va_up f_23 (k (5 + 8 * i + 1)) (some (.inr (4, [.ref (k (5 + 8 * i + 2)), .int x_22, .int x_28, .ref (k (5 + 8 * i + 3)), .ref (k (5 + 8 * i + 4))])))) H locs := hH
    obtain ⟨f_29, ef_29⟩ : ∃ zz_ : mF, zz_ = va_up f_23 (k (5 + 8 * i + 1)) (some (.inr (4, [.ref (k (5 + 8 * i + 2)), .int x_22, .int x_28, .ref (k (5 + 8 * i + 3)), .ref (k (5 + 8 * i + 4))]))) := ⟨_, rfl⟩
    rw [← ef_29] at hH
    have F_30 : f_29 (k (5 + 8 * i + 1)) = some (.inr (4, [.ref (k (5 + 8 * i + 2)), .int x_22, .int x_28, .ref (k (5 + 8 * i + 3)), .ref (k (5 + 8 * i + 4))])) := by rw [ef_29]; exact va_up_self _ _ _
    have F_31 := upk F_25 ef_29 (hk _ _ (by omega) (by omega) (by omega))
    have F_32 := upk F_26 ef_29 (hk _ _ (by omega) (by omega) (by omega))
    have F_33 := upk F_27 ef_29 (hk _ _ (by omega) (by omega) (by omega))
    have hfr_ : ∀ a, (∀ c, 1 ≤ c → c ≤ 4 → a ≠ k (5 + 8 * i + c)) → f_29 a = f a := fun a ha => (upn ef_29 (ha 1 (by omega) (by omega))).trans (hfr_ a ha)
    exact m_vret hx hb hr hlk hC hH (fun _ => (0, 0)) ⟨by rw [show tchL (2 * (8 * o.toNatClampNeg + ff.toNatClampNeg) + 1) l_ = l_ ++ [(2 * (8 * o.toNatClampNeg + ff.toNatClampNeg) + 1)] from tch_out nin_]; exact ⟨(x_22, x_28), _, _, _, F_30, F_31, F_32, F_33, (by have w_ := hT.add (en2 := (upd en_ e_.1.toNatClampNeg x_16)) (rb2 := rb_) (cb2 := (upd cb_ o.toNatClampNeg x_7)) (c := (2 * (8 * o.toNatClampNeg + ff.toNatClampNeg) + 1)) (o := o.toNatClampNeg) (j := ff.toNatClampNeg) (by omega) (by omega) nin_ (fun i_ hi_ => pk_un (by have ci_ : e_.1.toNatClampNeg = l_.length := (by have := ct_; have := ic_clN (rfl : e_.1.toInt = _) (by omega); omega); omega)) (by rw [show l_.length = e_.1.toNatClampNeg from (by have := ct_; have := ic_clN (rfl : e_.1.toInt = _) (by omega); omega)]; exact pk_us.trans (ic_inj (by have := True.intro; omega) (by omega))) (Or.inr ⟨rfl, rfl, fun p_ hp_ => pk_un hp_, (by unfold upd; rw [if_pos rfl, ex_7, ex_5, ex_6, nI_ofC (by omega)])⟩); rw [← (show x_22 = nI (l_.length + 1) from ic_inj (by omega) (by omega)), ← (show x_28 = nI (ocn l_ + (2 * (8 * o.toNatClampNeg + ff.toNatClampNeg) + 1) % 2) from ic_inj (by omega) (by omega))] at w_; exact w_)⟩, hfr_⟩ (Nat.le_of_ble_eq_true rfl) (Nat.le_of_ble_eq_true rfl) dX4_noteChanged_64
set_option maxHeartbeats 4000000 in
set_option maxRecDepth 100000 in
theorem c_X4_restart (l : Launch) (G : mG) (k : Nat → Nat) (f : mF) (i : Nat) (hi : i < 3) (hk : ∀ a b, a < 41 → b < 41 → a ≠ b → k a ≠ k b) (l_ : List Nat) (hT0 : TQ G k i l_ f) : Met l yX4_restart wsX4_restart ({ frames := 1, cells := 0, slots := 0, locals := 23 }) (va_Pc [.ref (k (5 + 8 * i + 1))] (mW G f)) (va_Qv (fun (u : mS) => TQ G k i [] u.2 ∧ ∀ a, (∀ c, 1 ≤ c → c ≤ 4 → a ≠ k (5 + 8 * i + c)) → u.2 a = f a) (fun (u : mS) t => mW G u.2 t) (mA G)) 0 0 (mA G) := by
  refine mMet [.ref (k (5 + 8 * i + 1))] (cc := cX4_restart) (maxL := 1) (ret := none) (by decide) rfl (Nat.le_of_ble_eq_true rfl) ?_
  intro p e s m below meth c ls hx hb hr hml hts hown hlk hnm hC hH hl
  have hl : lv_has ls 1 [(0, .ref (k (5 + 8 * i + 1)))] := hl
  obtain ⟨e_, en_, rb_, cb_, F1_, F2_, F3_, F4_, hT⟩ := hT0
  have hfr_ : ∀ a, (∀ c, 1 ≤ c → c ≤ 4 → a ≠ k (5 + 8 * i + c)) → f a = f a := fun _ _ => rfl
  have hlen_ := len_b hT.1
  have ct_ : e_.1.toInt = ((l_.length : Nat) : Int) := by rw [hT.2.1]; exact nI_toInt (by omega)
  have ol_ := ocn_le l_
  have cg_ : e_.2.toInt = ((ocn l_ : Nat) : Int) := by rw [hT.2.2.1]; exact nI_toInt (by omega)
  refine lv_aload_n hx hb dX4_restart_0 rfl (lv_at hl 0 rfl) ?_
  refine lv_iconst (v := 0) hx hb dX4_restart_1 (by decide) ?_
  refine m_put (ci := 4) (v := .int 0) (C := RX4) (T := TX4) (N := 5) hx hb hC hH hts in_X4_restart_X4 tyX4 tyX4_ok nmX4 hown F1_ rfl 1 (by decide) (hts (.fieldLink RX4 21 "LazyState$Trace" "count" "I") (by decide +kernel)) rfl rfl rfl (Nat.le_of_ble_eq_true rfl) dX4_restart_2 (fun H locs hH => ?_)
  have hH : mH G s (va_up f (k (5 + 8 * i + 1)) (some (.inr (4, [.ref (k (5 + 8 * i + 2)), .int 0, .int e_.2, .ref (k (5 + 8 * i + 3)), .ref (k (5 + 8 * i + 4))])))) H locs := hH
  obtain ⟨f_1, ef_1⟩ : ∃ zz_ : mF, zz_ = va_up f (k (5 + 8 * i + 1)) (some (.inr (4, [.ref (k (5 + 8 * i + 2)), .int 0, .int e_.2, .ref (k (5 + 8 * i + 3)), .ref (k (5 + 8 * i + 4))]))) := ⟨_, rfl⟩
  rw [← ef_1] at hH
  have F_2 : f_1 (k (5 + 8 * i + 1)) = some (.inr (4, [.ref (k (5 + 8 * i + 2)), .int 0, .int e_.2, .ref (k (5 + 8 * i + 3)), .ref (k (5 + 8 * i + 4))])) := by rw [ef_1]; exact va_up_self _ _ _
  have F_3 := upk F2_ ef_1 (hk _ _ (by omega) (by omega) (by omega))
  have F_4 := upk F3_ ef_1 (hk _ _ (by omega) (by omega) (by omega))
  have F_5 := upk F4_ ef_1 (hk _ _ (by omega) (by omega) (by omega))
  have hfr_ : ∀ a, (∀ c, 1 ≤ c → c ≤ 4 → a ≠ k (5 + 8 * i + c)) → f_1 a = f a := fun a ha => (upn ef_1 (ha 1 (by omega) (by omega))).trans (hfr_ a ha)
  refine lv_aload_n hx hb dX4_restart_5 rfl (lv_at hl 0 rfl) ?_
  refine lv_iconst (v := 0) hx hb dX4_restart_6 (by decide) ?_
  refine m_put (ci := 4) (v := .int 0) (C := RX4) (T := TX4) (N := 5) hx hb hC hH hts in_X4_restart_X4 tyX4 tyX4_ok nmX4 hown F_2 rfl 2 (by decide) (hts (.fieldLink RX4 25 "LazyState$Trace" "changedCount" "I") (by decide +kernel)) rfl rfl rfl (Nat.le_of_ble_eq_true rfl) dX4_restart_7 (fun H locs hH => ?_)
  have hH : mH G s (va_up f_1 (k (5 + 8 * i + 1)) (some (.inr (4, [.ref (k (5 + 8 * i + 2)), .int 0, .int 0, .ref (k (5 + 8 * i + 3)), .ref (k (5 + 8 * i + 4))])))) H locs := hH
  obtain ⟨f_6, ef_6⟩ : ∃ zz_ : mF, zz_ = va_up f_1 (k (5 + 8 * i + 1)) (some (.inr (4, [.ref (k (5 + 8 * i + 2)), .int 0, .int 0, .ref (k (5 + 8 * i + 3)), .ref (k (5 + 8 * i + 4))]))) := ⟨_, rfl⟩
  rw [← ef_6] at hH
  have F_7 : f_6 (k (5 + 8 * i + 1)) = some (.inr (4, [.ref (k (5 + 8 * i + 2)), .int 0, .int 0, .ref (k (5 + 8 * i + 3)), .ref (k (5 + 8 * i + 4))])) := by rw [ef_6]; exact va_up_self _ _ _
  have F_8 := upk F_3 ef_6 (hk _ _ (by omega) (by omega) (by omega))
  have F_9 := upk F_4 ef_6 (hk _ _ (by omega) (by omega) (by omega))
  have F_10 := upk F_5 ef_6 (hk _ _ (by omega) (by omega) (by omega))
  have hfr_ : ∀ a, (∀ c, 1 ≤ c → c ≤ 4 → a ≠ k (5 + 8 * i + c)) → f_6 a = f a := fun a ha => (upn ef_6 (ha 1 (by omega) (by omega))).trans (hfr_ a ha)
  refine lv_aload_n hx hb dX4_restart_10 rfl (lv_at hl 0 rfl) ?_
  refine m_get (ci := 4) (v := .ref (k (5 + 8 * i + 3))) (C := RX4) (T := TX4) (N := 5) hx hb hC hH hts in_X4_restart_X4 hown F_7 rfl 3 (by decide) (hts (.fieldLink RX4 15 "LazyState$Trace" "readBits" "[I") (by decide +kernel)) rfl dX4_restart_11 ?_
  refine lv_iconst (v := 0) hx hb dX4_restart_14 (by decide) ?_
  refine m_gov hH (va_runS (As := [.ref (k (5 + 8 * i + 3)), .int 0]) (rest := []) ⟨hx, hb, hml, hown, hts⟩ (c_J7_fill_53178 l G f_6 (k (5 + 8 * i + 3)) 24 (by decide) rb_ F_9 0) (va_cwS 2 hts gX4_restart_J7_fill_53178 rfl rfl rfl (by decide +kernel) ⟨Nat.le_of_ble_eq_true rfl, Nat.le_of_ble_eq_true rfl⟩) (m_preS hC hH) rfl rfl hl.1 rfl (lv_room (Nat.le_of_ble_eq_true rfl)) dX4_restart_15 ⟨Nat.le_of_ble_eq_true rfl, Nat.le_of_ble_eq_true rfl⟩) (fun rho_13 f_12 H locs hw hH => ?_)
  obtain ⟨gz3_, ef_12, hz3_⟩ := hw
  have ef_12 : f_12 = va_up f_6 (k (5 + 8 * i + 3)) _ := ef_12
  have F_14 := upk F_7 ef_12 (hk _ _ (by omega) (by omega) (by omega))
  have F_15 := upk F_8 ef_12 (hk _ _ (by omega) (by omega) (by omega))
  have F_16 : f_12 (k (5 + 8 * i + 3)) = some (.inl (gk G 0, 24, .inl gz3_)) := by rw [ef_12]; exact va_up_self _ _ _
  have F_17 := upk F_10 ef_12 (hk _ _ (by omega) (by omega) (by omega))
  have hfr_ : ∀ a, (∀ c, 1 ≤ c → c ≤ 4 → a ≠ k (5 + 8 * i + c)) → f_12 a = f a := fun a ha => (upn ef_12 (ha 3 (by omega) (by omega))).trans (hfr_ a ha)
  refine lv_aload_n hx hb dX4_restart_18 rfl (lv_at hl 0 rfl) ?_
  refine m_get (ci := 4) (v := .ref (k (5 + 8 * i + 4))) (C := RX4) (T := TX4) (N := 5) hx hb hC hH hts in_X4_restart_X4 hown F_14 rfl 4 (by decide) (hts (.fieldLink RX4 18 "LazyState$Trace" "changedBits" "[I") (by decide +kernel)) rfl dX4_restart_19 ?_
  refine lv_iconst (v := 0) hx hb dX4_restart_22 (by decide) ?_
  refine m_gov hH (va_runS (As := [.ref (k (5 + 8 * i + 4)), .int 0]) (rest := []) ⟨hx, hb, hml, hown, hts⟩ (c_J7_fill_53178 l G f_12 (k (5 + 8 * i + 4)) 24 (by decide) cb_ F_17 0) (va_cwS 2 hts gX4_restart_J7_fill_53178 rfl rfl rfl (by decide +kernel) ⟨Nat.le_of_ble_eq_true rfl, Nat.le_of_ble_eq_true rfl⟩) (m_preS hC hH) rfl rfl hl.1 rfl (lv_room (Nat.le_of_ble_eq_true rfl)) dX4_restart_23 ⟨Nat.le_of_ble_eq_true rfl, Nat.le_of_ble_eq_true rfl⟩) (fun rho_20 f_19 H locs hw hH => ?_)
  obtain ⟨gz4_, ef_19, hz4_⟩ := hw
  have ef_19 : f_19 = va_up f_12 (k (5 + 8 * i + 4)) _ := ef_19
  have F_21 := upk F_14 ef_19 (hk _ _ (by omega) (by omega) (by omega))
  have F_22 := upk F_15 ef_19 (hk _ _ (by omega) (by omega) (by omega))
  have F_23 := upk F_16 ef_19 (hk _ _ (by omega) (by omega) (by omega))
  have F_24 : f_19 (k (5 + 8 * i + 4)) = some (.inl (gk G 0, 24, .inl gz4_)) := by rw [ef_19]; exact va_up_self _ _ _
  have hfr_ : ∀ a, (∀ c, 1 ≤ c → c ≤ 4 → a ≠ k (5 + 8 * i + c)) → f_19 a = f a := fun a ha => (upn ef_19 (ha 4 (by omega) (by omega))).trans (hfr_ a ha)
  exact m_vret hx hb hr hlk hC hH (fun _ => (0, 0)) ⟨⟨(0, 0), _, _, _, F_21, F_22, F_23, F_24, TRC.nil hz3_ hz4_⟩, hfr_⟩ (Nat.le_of_ble_eq_true rfl) (Nat.le_of_ble_eq_true rfl) dX4_restart_26
set_option maxHeartbeats 4000000 in
set_option maxRecDepth 100000 in
theorem c_X4_isSameAs (l : Launch) (G : mG) (k : Nat → Nat) (f : mF) (i i2 : Nat) (l_ l2_ : List Nat) (hT0 : TQ G k i l_ f) (hU0 : TQ G k i2 l2_ f) : Met l yX4_isSameAs wsX4_isSameAs ({ frames := 0, cells := 0, slots := 0, locals := 0 }) (va_Pc [.ref (k (5 + 8 * i + 1)), .ref (k (5 + 8 * i2 + 1))] (mW G f)) (va_Qi (fun (r : Int32) (u : mS) => u.2 = f ∧ ((r.toInt = 1 ∧ l_ = l2_) ∨ (r.toInt = 0 ∧ l_ ≠ l2_))) (fun (u : mS) t => mW G u.2 t) (mA G)) 0 0 (mA G) := by
  refine mMet [.ref (k (5 + 8 * i + 1)), .ref (k (5 + 8 * i2 + 1))] (cc := cX4_isSameAs) (maxL := 3) (ret := (some .boolean)) (by decide) rfl (Nat.le_of_ble_eq_true rfl) ?_
  intro p e s m below meth c ls hx hb hr hml hts hown hlk hnm hC hH hl
  have hl : lv_has ls 3 [(0, .ref (k (5 + 8 * i + 1))), (1, .ref (k (5 + 8 * i2 + 1)))] := hl
  obtain ⟨e_, en_, rb_, cb_, F1_, F2_, F3_, F4_, hT⟩ := hT0
  have hfr_ : ∀ a, (∀ c, 1 ≤ c → c ≤ 4 → a ≠ k (5 + 8 * i + c)) → f a = f a := fun _ _ => rfl
  have hlen_ := len_b hT.1
  have ct_ : e_.1.toInt = ((l_.length : Nat) : Int) := by rw [hT.2.1]; exact nI_toInt (by omega)
  have ol_ := ocn_le l_
  have cg_ : e_.2.toInt = ((ocn l_ : Nat) : Int) := by rw [hT.2.2.1]; exact nI_toInt (by omega)
  obtain ⟨e2_, fn_, sb_, db_, G1_, G2_, G3_, G4_, hU⟩ := hU0
  have hlen2_ := len_b hU.1
  have dt_ : e2_.1.toInt = ((l2_.length : Nat) : Int) := by rw [hU.2.1]; exact nI_toInt (by omega)
  refine lv_aload_n hx hb dX4_isSameAs_0 rfl (lv_at hl 0 rfl) ?_
  refine m_get (ci := 4) (v := .int e_.1) (C := RX4) (T := TX4) (N := 5) hx hb hC hH hts in_X4_isSameAs_X4 hown F1_ rfl 1 (by decide) (hts (.fieldLink RX4 21 "LazyState$Trace" "count" "I") (by decide +kernel)) rfl dX4_isSameAs_1 ?_
  refine lv_aload_n hx hb dX4_isSameAs_4 rfl (lv_at hl 1 rfl) ?_
  refine m_get (ci := 4) (v := .int e2_.1) (C := RX4) (T := TX4) (N := 5) hx hb hC hH hts in_X4_isSameAs_X4 hown G1_ rfl 1 (by decide) (hts (.fieldLink RX4 21 "LazyState$Trace" "count" "I") (by decide +kernel)) rfl dX4_isSameAs_5 ?_
  refine lv_icmp_eq (tgt := 13) hx hb dX4_isSameAs_8 (by decide) (fun c_1 => ?_) (fun c_1 => ?_)
  · skip
    have ic_1 : (((l_.length : Nat) : Int) : Int) = ((l2_.length : Nat) : Int) := ic_eq ct_ dt_ c_1
    refine lv_iconst (v := 0) hx hb dX4_isSameAs_13 (by decide) ?_
    refine lv_istore_n (lv' := [(2, .int 0), (0, .ref (k (5 + 8 * i + 1))), (1, .ref (k (5 + 8 * i2 + 1)))]) hx hb dX4_isSameAs_14 rfl hl (by decide) rfl (fun ls hl => ?_)
    have loop_15 : ∀ (fuel_ : Nat) (k2 : Int32) (h0_ : 0 ≤ k2.toInt) (h1_ : k2.toInt ≤ ((l_.length : Nat) : Int)) (hz : ∀ j : Nat, (j : Int) < k2.toInt → l_.getD j 0 = l2_.getD j 0) (_ : (((l_.length : Nat) : Int) - k2.toInt).toNat < fuel_) (H : Heap) (locs : List Loc) (ls : Array Slot) (_ : mH G s f H locs) (_ : lv_has ls 3 [(0, .ref (k (5 + 8 * i + 1))), (1, .ref (k (5 + 8 * i2 + 1))), (2, .int k2)]), W p l e ({ frames := 0, cells := 0, slots := 0, locals := 0 } : Room) s m ([.ref (k (5 + 8 * i + 1)), .ref (k (5 + 8 * i2 + 1))] : List Value).toArray below meth c H locs 0 0 (MQ below (va_Qi (fun (r : Int32) (u : mS) => u.2 = f ∧ ((r.toInt = 1 ∧ l_ = l2_) ∨ (r.toInt = 0 ∧ l_ ≠ l2_))) (fun (u : mS) t => mW G u.2 t) (mA G)) ([.ref (k (5 + 8 * i + 1)), .ref (k (5 + 8 * i2 + 1))] : List Value).toArray s 0 0 (mA G)) (F0 m 15 ls []) := by
      intro N_15
      induction N_15 with
      | zero => intro k2 h0_ h1_ hz hN; omega
      | succ N_15 ih_15 =>
        intro k2 h0_ h1_ hz hN_15 H locs ls hH hl
        refine lv_iload_n hx hb dX4_isSameAs_15 rfl (lv_at hl 2 rfl) ?_
        refine lv_aload_n hx hb dX4_isSameAs_16 rfl (lv_at hl 0 rfl) ?_
        refine m_get (ci := 4) (v := .int e_.1) (C := RX4) (T := TX4) (N := 5) hx hb hC hH hts in_X4_isSameAs_X4 hown F1_ rfl 1 (by decide) (hts (.fieldLink RX4 21 "LazyState$Trace" "count" "I") (by decide +kernel)) rfl dX4_isSameAs_17 ?_
        refine lv_icmp_ge (tgt := 46) hx hb dX4_isSameAs_20 (by decide) (fun c_2 => ?_) (fun c_2 => ?_)
        · skip
          have ic_2 : (((l_.length : Nat) : Int) : Int) ≤ k2.toInt := ic_le ct_ rfl c_2
          refine lv_iconst (v := 1) hx hb dX4_isSameAs_46 (by decide) ?_
          exact m_zret (v := 1) hx hb hr (by rfl) hlk hC hH (fun _ => (0, 0)) ⟨rfl, Or.inl ⟨kI_1, list_eq (by omega) (fun i_ hi_ => hz i_ (by omega))⟩⟩ (Nat.le_of_ble_eq_true rfl) (Nat.le_of_ble_eq_true rfl) dX4_isSameAs_47
        · skip
          have ic_2 : (((l_.length : Nat) : Int) : Int) > k2.toInt := ic_nle ct_ rfl c_2
          refine lv_aload_n hx hb dX4_isSameAs_23 rfl (lv_at hl 0 rfl) ?_
          refine m_get (ci := 4) (v := .ref (k (5 + 8 * i + 2))) (C := RX4) (T := TX4) (N := 5) hx hb hC hH hts in_X4_isSameAs_X4 hown F1_ rfl 0 (by decide) (hts (.fieldLink RX4 9 "LazyState$Trace" "entries" "[I") (by decide +kernel)) rfl dX4_isSameAs_24 ?_
          refine lv_iload_n hx hb dX4_isSameAs_27 rfl (lv_at hl 2 rfl) ?_
          refine m_iald hx hb hC hH F2_ (vp_in_iff.mpr ⟨by omega, by omega⟩) dX4_isSameAs_28 ?_
          refine lv_topi (fun x_3 ex_3 => ?_)
          have en1_ : x_3 = nI (l_.getD k2.toNatClampNeg 0) := by rw [ex_3]; exact hT.2.2.2.1 k2.toNatClampNeg (by have := ic_clN (rfl : k2.toInt = _) (by omega); omega)
          refine lv_aload_n hx hb dX4_isSameAs_29 rfl (lv_at hl 1 rfl) ?_
          refine m_get (ci := 4) (v := .ref (k (5 + 8 * i2 + 2))) (C := RX4) (T := TX4) (N := 5) hx hb hC hH hts in_X4_isSameAs_X4 hown G1_ rfl 0 (by decide) (hts (.fieldLink RX4 9 "LazyState$Trace" "entries" "[I") (by decide +kernel)) rfl dX4_isSameAs_30 ?_
          refine lv_iload_n hx hb dX4_isSameAs_33 rfl (lv_at hl 2 rfl) ?_
          refine m_iald hx hb hC hH G2_ (vp_in_iff.mpr ⟨by omega, by omega⟩) dX4_isSameAs_34 ?_
          refine lv_topi (fun x_4 ex_4 => ?_)
          have en2_ : x_4 = nI (l2_.getD k2.toNatClampNeg 0) := by rw [ex_4]; exact hU.2.2.2.1 k2.toNatClampNeg (by have := ic_clN (rfl : k2.toInt = _) (by omega); omega)
          refine lv_icmp_eq (tgt := 40) hx hb dX4_isSameAs_35 (by decide) (fun c_5 => ?_) (fun c_5 => ?_)
          · skip
            have ic_5 : (x_3.toInt : Int) = x_4.toInt := ic_eq rfl rfl c_5
            obtain ⟨x_6, ex_6⟩ : ∃ y : Int32, y = k2 + 1 := ⟨_, rfl⟩
            have ix_6 : x_6.toInt = k2.toInt + 1 := ic_add ex_6 rfl kI_1 (by omega) (by omega)
            refine lv_iinc (v := x_6) (lv' := [(2, .int x_6), (0, .ref (k (5 + 8 * i + 1))), (1, .ref (k (5 + 8 * i2 + 1)))]) hx hb dX4_isSameAs_40 hl (k := 2) rfl (by rw [ex_6]; rfl) (by decide) rfl (fun ls hl => ?_)
            refine lv_goto (tgt := 15) hx hb dX4_isSameAs_43 (by decide) ?_
            exact ih_15 x_6 (by omega) (by omega) (fun j_ hj_ => (Decidable.em (j_ = k2.toNatClampNeg)).elim (fun z_ => by rw [z_]; have q1_ := hT.1.2 _ (getD_mem (l := l_) (i := k2.toNatClampNeg) (by have := ic_clN (rfl : k2.toInt = _) (by omega); omega)); have q2_ := hU.1.2 _ (getD_mem (l := l2_) (i := k2.toNatClampNeg) (by have := ic_clN (rfl : k2.toInt = _) (by omega); omega)); exact nI_inj (by omega) (by omega) (en1_.symm.trans ((Int32.toInt_inj.mp ic_5).trans en2_))) (fun z_ => hz j_ (by have := ic_clN (rfl : k2.toInt = _) (by omega); omega))) (by omega) _ _ _ hH (lv_sub hl [1, 2, 0] rfl)
          · skip
            have ic_5 : (x_3.toInt : Int) ≠ x_4.toInt := ic_ne rfl rfl c_5
            refine lv_iconst (v := 0) hx hb dX4_isSameAs_38 (by decide) ?_
            exact m_zret (v := 0) hx hb hr (by rfl) hlk hC hH (fun _ => (0, 0)) ⟨rfl, Or.inr ⟨kI_0, fun z_ => by rw [← z_] at en2_; rw [en1_, en2_] at ic_5; exact ic_5 rfl⟩⟩ (Nat.le_of_ble_eq_true rfl) (Nat.le_of_ble_eq_true rfl) dX4_isSameAs_39
    exact loop_15 ((((l_.length : Nat) : Int) - 0).toNat + 1) 0 (by have := kI_0; omega) (by have := kI_0; omega) (fun j_ hj_ => by have := kI_0; omega) (by have := kI_0; omega) _ _ _ hH (lv_sub hl [1, 2, 0] rfl)
  · skip
    have ic_1 : (((l_.length : Nat) : Int) : Int) ≠ ((l2_.length : Nat) : Int) := ic_ne ct_ dt_ c_1
    refine lv_iconst (v := 0) hx hb dX4_isSameAs_11 (by decide) ?_
    exact m_zret (v := 0) hx hb hr (by rfl) hlk hC hH (fun _ => (0, 0)) ⟨rfl, Or.inr ⟨kI_0, fun z_ => by have w_ := congrArg List.length z_; omega⟩⟩ (Nat.le_of_ble_eq_true rfl) (Nat.le_of_ble_eq_true rfl) dX4_isSameAs_12
