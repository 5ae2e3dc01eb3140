set_option maxHeartbeats 4000000 in
set_option maxRecDepth 100000 in
theorem c_X2_copyFrom (l : Launch) (G : mG) (k : Nat → Nat) (rho : tR) (n : Nat) (T z : Nat → Nat) (st : Nat → Bool) (f : mF) (hI : IC G k rho n T z st f) (q t : Nat) (hq : rho q = (1, t)) (ht : t < 3) (q2 : Nat) (hq2 : rho q2 = (1, t)) : Met l yX2_copyFrom wsX2_copyFrom ({ frames := 1, cells := 0, slots := 0, locals := 60 }) (va_Pc [.ref q, .ref q2] (mW G f)) (va_Qv (fun (u : mS) => u.1 = rho ∧ IC G k rho n T z st u.2 ∧ frC k rho f rho u.2 ∧ kpK k f u.2) (fun (u : mS) t => mW G u.2 t) (mA G)) 0 0 (mA G) := by
  refine mMet [.ref q, .ref q2] (cc := cX2_copyFrom) (maxL := 2) (ret := none) (by decide) rfl (Nat.le_of_ble_eq_true rfl) ?_
  intro p e s m below meth c ls hx hb hr hml hts hown hlk hnm hC hH hl
  have hl : lv_has ls 2 [(0, .ref q), (1, .ref q2)] := hl
  have hj := hI.2.2.2.2.1
  have hn24 := hI.2.2.2.2.2.2.1
  have hT3 := hI.2.2.2.2.2.2.2.1
  have hz32 := hI.2.2.2.2.2.2.2.2
  have nIn : (nI n).toInt = (n : Int) := nI_toInt (by omega)
  have hfr : frC k rho f rho f := frC.rf
  have hkk : kpK k f f := fun _ _ => rfl
  refine lv_aload_n hx hb dX2_copyFrom_0 rfl (lv_at hl 1 rfl) ?_
  obtain ⟨ca_1, ia_1, si_1, bf_1, F_1, hca_1, hia_1, hbf_1⟩ : okB rho t q2 (f q2) := hI.pool hq2
  have tI_1 : (nI t).toInt = (t : Int) := nI_toInt (by have := ht; omega)
  refine m_get (ci := 2) (v := .ref ca_1) (C := RX2) (T := TX2) (N := 5) hx hb hC hH hts in_X2_copyFrom_X2 hown F_1 rfl 1 (by decide) (hts (.fieldLink RX2 9 "LazyState$Body" "cells" "[J") (by decide +kernel)) rfl dX2_copyFrom_1 ?_
  refine lv_iconst (v := 0) hx hb dX2_copyFrom_4 (by decide) ?_
  refine lv_aload_n hx hb dX2_copyFrom_5 rfl (lv_at hl 0 rfl) ?_
  obtain ⟨ca_2, ia_2, si_2, bf_2, F_2, hca_2, hia_2, hbf_2⟩ : okB rho t q (f q) := hI.pool hq
  have tI_2 : (nI t).toInt = (t : Int) := nI_toInt (by have := ht; omega)
  refine m_get (ci := 2) (v := .ref ca_2) (C := RX2) (T := TX2) (N := 5) hx hb hC hH hts in_X2_copyFrom_X2 hown F_2 rfl 1 (by decide) (hts (.fieldLink RX2 9 "LazyState$Body" "cells" "[J") (by decide +kernel)) rfl dX2_copyFrom_6 ?_
  refine lv_iconst (v := 0) hx hb dX2_copyFrom_9 (by decide) ?_
  refine lv_bipush (v := 8) hx hb dX2_copyFrom_10 (by decide) ?_
  obtain ⟨g_3, hg_3, hp_3⟩ : okJ G 8 (pCl n t) (f ca_1) := hI.pool hca_1
  obtain ⟨g_4, hg_4, hp_4⟩ : okJ G 8 (pCl n t) (f ca_2) := hI.pool hca_2
  refine m_copyl (rest := []) (sp := 0) (dp := 0) (n := 8) hx hb (hml.trans hl.1.symm) hC hH hown (hts (.methodLink RX2 40 arraycopyName) (by decide +kernel)) (hts (.native arraycopyName) (by decide +kernel)) (hts (.static arraycopyName) (by decide +kernel)) (hts (.initialized "java/lang/System") (by decide +kernel)) hg_3 hg_4 (by decide) (by decide) (by decide) (by decide) (by decide) (Nat.le_of_ble_eq_true rfl) (by decide) dX2_copyFrom_12 (fun H locs hH => ?_)
  obtain ⟨f_5, ef_5⟩ : ∃ zz_ : mF, zz_ = va_up f ca_2 (some (.inl (gk G 1, 8, .inr (.inl (va_cpy g_3 g_4 (0 : Int32).toNatClampNeg (0 : Int32).toNatClampNeg (8 : Int32).toNatClampNeg))))) := ⟨_, rfl⟩
  rw [← ef_5] at hH
  have F_6 := upk F_1 ef_5 (ne_rho hq2 hca_2 (by simp))
  have F_7 := upk F_2 ef_5 (ne_rho hq hca_2 (by simp))
  have hI : IC G k rho n T z st f_5 := hI.setP hca_2 (by simp) ef_5 (show okJ G 8 (pCl n t) _ from ⟨_, rfl, pCl_cpy hp_3⟩)
  have hkk : kpK k f f_5 := fun j_ hj_ => (upn ef_5 (Ne.symm (hI.nk hj_ (by rw [hca_2]; simp)))).trans (hkk j_ hj_)
  have hfr := hfr.upP (by rw [hca_2]; simp) ef_5
  refine lv_aload_n hx hb dX2_copyFrom_15 rfl (lv_at hl 1 rfl) ?_
  refine m_get (ci := 2) (v := .ref ia_1) (C := RX2) (T := TX2) (N := 5) hx hb hC hH hts in_X2_copyFrom_X2 hown F_6 rfl 2 (by decide) (hts (.fieldLink RX2 15 "LazyState$Body" "items" "[I") (by decide +kernel)) rfl dX2_copyFrom_16 ?_
  refine lv_iconst (v := 0) hx hb dX2_copyFrom_19 (by decide) ?_
  refine lv_aload_n hx hb dX2_copyFrom_20 rfl (lv_at hl 0 rfl) ?_
  refine m_get (ci := 2) (v := .ref ia_2) (C := RX2) (T := TX2) (N := 5) hx hb hC hH hts in_X2_copyFrom_X2 hown F_7 rfl 2 (by decide) (hts (.fieldLink RX2 15 "LazyState$Body" "items" "[I") (by decide +kernel)) rfl dX2_copyFrom_21 ?_
  refine lv_iconst (v := 0) hx hb dX2_copyFrom_24 (by decide) ?_
  refine lv_bipush (v := 16) hx hb dX2_copyFrom_25 (by decide) ?_
  obtain ⟨g_8, hg_8, hp_8⟩ : okI G 0 16 (fun _ => True) (f_5 ia_1) := hI.pool hia_1
  obtain ⟨g_9, hg_9, hp_9⟩ : okI G 0 16 (fun _ => True) (f_5 ia_2) := hI.pool hia_2
  refine m_copyi (rest := []) (sp := 0) (dp := 0) (n := 16) hx hb (hml.trans hl.1.symm) hC hH hown (hts (.methodLink RX2 40 arraycopyName) (by decide +kernel)) (hts (.native arraycopyName) (by decide +kernel)) (hts (.static arraycopyName) (by decide +kernel)) (hts (.initialized "java/lang/System") (by decide +kernel)) hg_8 hg_9 (by decide) (by decide) (by decide) (by decide) (by decide) (Nat.le_of_ble_eq_true rfl) (by decide) dX2_copyFrom_27 (fun H locs hH => ?_)
  obtain ⟨f_10, ef_10⟩ : ∃ zz_ : mF, zz_ = va_up f_5 ia_2 (some (.inl (gk G 0, 16, .inl (va_cpy g_8 g_9 (0 : Int32).toNatClampNeg (0 : Int32).toNatClampNeg (16 : Int32).toNatClampNeg)))) := ⟨_, rfl⟩
  rw [← ef_10] at hH
  have F_11 := upk F_6 ef_10 (ne_rho hq2 hia_2 (by simp))
  have F_12 := upk F_7 ef_10 (ne_rho hq hia_2 (by simp))
  have hI : IC G k rho n T z st f_10 := hI.setP hia_2 (by simp) ef_10 (show okI G 0 16 (fun _ => True) _ from ⟨_, rfl, trivial⟩)
  have hkk : kpK k f f_10 := fun j_ hj_ => (upn ef_10 (Ne.symm (hI.nk hj_ (by rw [hia_2]; simp)))).trans (hkk j_ hj_)
  have hfr := hfr.upP (by rw [hia_2]; simp) ef_10
  exact m_vret hx hb hr hlk hC hH rho ⟨rfl, hI, hfr, hkk⟩ (Nat.le_of_ble_eq_true rfl) (Nat.le_of_ble_eq_true rfl) dX2_copyFrom_30
set_option maxHeartbeats 4000000 in
set_option maxRecDepth 100000 in
theorem c_X2_asOf (l : Launch) (G : mG) (k : Nat → Nat) (rho : tR) (n : Nat) (T z : Nat → Nat) (st : Nat → Bool) (f : mF) (hI : IC G k rho n T z st f) (q t : Nat) (hq : rho q = (1, t)) (ht : t < 3) (hh_ : Int32) : Met l yX2_asOf wsX2_asOf ({ frames := 0, cells := 0, slots := 0, locals := 0 }) (va_Pc [.ref q, .int hh_] (mW G f)) (va_Qq (fun (r : Option Nat) (u : mS) => u.2 = f ∧ ∃ b, r = some b ∧ rho b = (1, t)) (fun (u : mS) t => mW G u.2 t) (mA G)) 0 0 (mA G) := by
  refine mMet [.ref q, .int hh_] (cc := cX2_asOf) (maxL := 3) (ret := (some (.object "LazyState$Body"))) (by decide) rfl (Nat.le_of_ble_eq_true rfl) ?_
  intro p e s m below meth c ls hx hb hr hml hts hown hlk hnm hC hH hl
  have hl : lv_has ls 3 [(0, .ref q), (1, .int hh_)] := hl
  have hj := hI.2.2.2.2.1
  have hn24 := hI.2.2.2.2.2.2.1
  have hT3 := hI.2.2.2.2.2.2.2.1
  have hz32 := hI.2.2.2.2.2.2.2.2
  have nIn : (nI n).toInt = (n : Int) := nI_toInt (by omega)
  have hfr : frC k rho f rho f := frC.rf
  refine lv_aload_n hx hb dX2_asOf_0 rfl (lv_at hl 0 rfl) ?_
  refine lv_astore_n (lv' := [(2, .ref q), (0, .ref q), (1, .int hh_)]) hx hb dX2_asOf_1 rfl hl (by decide) rfl (fun ls hl => ?_)
  have loop_2 : ∀ (fuel_ : Nat) (v2 : Nat) (hv2 : rho v2 = (1, t)) (_ : v2 < fuel_) (H : Heap) (locs : List Loc) (ls : Array Slot) (_ : mH G s f H locs) (_ : lv_has ls 3 [(0, .ref q), (1, .int hh_), (2, .ref v2)]), W p l e ({ frames := 0, cells := 0, slots := 0, locals := 0 } : Room) s m ([.ref q, .int hh_] : List Value).toArray below meth c H locs 0 0 (MQ below (va_Qq (fun (r : Option Nat) (u : mS) => u.2 = f ∧ ∃ b, r = some b ∧ rho b = (1, t)) (fun (u : mS) t => mW G u.2 t) (mA G)) ([.ref q, .int hh_] : List Value).toArray s 0 0 (mA G)) (F0 m 2 ls []) := by
    intro N_2
    induction N_2 with
    | zero => intro v2 hv2 hN; omega
    | succ N_2 ih_2 =>
      intro v2 hv2 hN_2 H locs ls hH hl
      refine lv_aload_n hx hb dX2_asOf_2 rfl (lv_at hl 2 rfl) ?_
      obtain ⟨ca_1, ia_1, si_1, bf_1, F_1, hca_1, hia_1, hbf_1⟩ : okB rho t v2 (f v2) := hI.pool hv2
      have tI_1 : (nI t).toInt = (t : Int) := nI_toInt (by have := ht; omega)
      refine m_get (ci := 2) (v := va_rf bf_1) (C := RX2) (T := TX2) (N := 5) hx hb hC hH hts in_X2_asOf_X2 hown F_1 rfl 4 (by decide) (hts (.fieldLink RX2 46 "LazyState$Body" "before" "LLazyState$Body;") (by decide +kernel)) rfl dX2_asOf_3 ?_
      cases hq_2 : bf_1 with
      | none =>
        refine lv_ifnullN (tgt := 25) hx hb dX2_asOf_6 (by decide) ?_
        refine lv_aload_n hx hb dX2_asOf_25 rfl (lv_at hl 2 rfl) ?_
        exact m_aret (v := some v2) hx hb hr hlk hC hH rho ⟨rfl, _, rfl, hv2⟩ (Nat.le_of_ble_eq_true rfl) (Nat.le_of_ble_eq_true rfl) dX2_asOf_26
      | some q_2 =>
        refine lv_ifnull hx hb dX2_asOf_6 ?_
        obtain ⟨hrq_2, hltq_2⟩ := hbf_1 q_2 hq_2
        refine lv_aload_n hx hb dX2_asOf_9 rfl (lv_at hl 2 rfl) ?_
        refine m_get (ci := 2) (v := .int si_1) (C := RX2) (T := TX2) (N := 5) hx hb hC hH hts in_X2_asOf_X2 hown F_1 rfl 3 (by decide) (hts (.fieldLink RX2 50 "LazyState$Body" "since" "I") (by decide +kernel)) rfl dX2_asOf_10 ?_
        refine lv_iload_n hx hb dX2_asOf_13 rfl (lv_at hl 1 rfl) ?_
        refine lv_icmp_le (tgt := 25) hx hb dX2_asOf_14 (by decide) (fun c_3 => ?_) (fun c_3 => ?_)
        · skip
          have ic_3 : (si_1.toInt : Int) ≤ hh_.toInt := ic_le rfl rfl c_3
          refine lv_aload_n hx hb dX2_asOf_25 rfl (lv_at hl 2 rfl) ?_
          exact m_aret (v := some v2) hx hb hr hlk hC hH rho ⟨rfl, _, rfl, hv2⟩ (Nat.le_of_ble_eq_true rfl) (Nat.le_of_ble_eq_true rfl) dX2_asOf_26
        · skip
          have ic_3 : (si_1.toInt : Int) > hh_.toInt := ic_nle rfl rfl c_3
          refine lv_aload_n hx hb dX2_asOf_17 rfl (lv_at hl 2 rfl) ?_
          refine m_get (ci := 2) (v := va_rf bf_1) (C := RX2) (T := TX2) (N := 5) hx hb hC hH hts in_X2_asOf_X2 hown F_1 rfl 4 (by decide) (hts (.fieldLink RX2 46 "LazyState$Body" "before" "LLazyState$Body;") (by decide +kernel)) rfl dX2_asOf_18 ?_
          rw [hq_2]
          refine lv_astore_n (lv' := [(2, .ref q_2), (0, .ref q), (1, .int hh_)]) hx hb dX2_asOf_21 rfl hl (by decide) rfl (fun ls hl => ?_)
          refine lv_goto (tgt := 2) hx hb dX2_asOf_22 (by decide) ?_
          exact ih_2 q_2 hrq_2 (by omega) _ _ _ hH (lv_sub hl [1, 2, 0] rfl)
  exact loop_2 (q + 1) q hq (by omega) _ _ _ hH (lv_sub hl [1, 2, 0] rfl)
set_option maxHeartbeats 4000000 in
set_option maxRecDepth 100000 in
theorem c_J7_fill_53178 (l : Launch) (G : mG) (f : mF) (a N : Nat) (hN : N < 2147483648) (g : Nat → Int32) (Fq : f a = some (.inl (gk G 0, N, .inl g))) (v : Int32) : Met l yJ7_fill_53178 wsJ7_fill_53178 ({ frames := 0, cells := 0, slots := 0, locals := 0 }) (va_Pc [.ref a, .int v] (mW G f)) (va_Qv (fun (u : mS) => ∃ g2 : Nat → Int32, u.2 = va_up f a (some (.inl (gk G 0, N, .inl g2))) ∧ ∀ j, j < N → g2 j = v) (fun (u : mS) t => mW G u.2 t) (mA G)) 0 0 (mA G) := by
  refine mMet [.ref a, .int v] (cc := cJ7_fill_53178) (maxL := 4) (ret := none) (by decide) rfl (Nat.le_of_ble_eq_true rfl) ?_
  intro p e s m below meth c ls hx hb hr hml hts hown hlk hnm hC hH hl
  have hl : lv_has ls 4 [(0, .ref a), (1, .int v)] := hl
  have nIN : (nI N).toInt = (N : Int) := nI_toInt (by omega)
  refine lv_iconst (v := 0) hx hb dJ7_fill_53178_0 (by decide) ?_
  refine lv_istore_n (lv' := [(2, .int 0), (0, .ref a), (1, .int v)]) hx hb dJ7_fill_53178_1 rfl hl (by decide) rfl (fun ls hl => ?_)
  refine lv_aload_n hx hb dJ7_fill_53178_2 rfl (lv_at hl 1 rfl) ?_
  refine m_alen hx hb hC hH 0 rfl Fq (v := nI N) rfl dJ7_fill_53178_3 ?_
  refine lv_istore_n (lv' := [(3, .int (nI N)), (2, .int 0), (0, .ref a), (1, .int v)]) hx hb dJ7_fill_53178_4 rfl hl (by decide) rfl (fun ls hl => ?_)
  have loop_5 : ∀ (fuel_ : Nat) (k2 : Int32) (fL : mF) (gL : Nat → Int32) (h0_ : 0 ≤ k2.toInt) (h1_ : k2.toInt ≤ N) (FL : fL a = some (.inl (gk G 0, N, .inl gL))) (eL : fL = va_up f a (some (.inl (gk G 0, N, .inl gL)))) (al : ∀ j : Nat, (j : Int) < k2.toInt → gL j = v) (_ : ((N : Int) - k2.toInt).toNat < fuel_) (H : Heap) (locs : List Loc) (ls : Array Slot) (_ : mH G s fL H locs) (_ : lv_has ls 4 [(0, .ref a), (1, .int v), (2, .int k2), (3, .int (nI N))]), W p l e ({ frames := 0, cells := 0, slots := 0, locals := 0 } : Room) s m ([.ref a, .int v] : List Value).toArray below meth c H locs 0 0 (MQ below (va_Qv (fun (u : mS) => ∃ g2 : Nat → Int32, u.2 = va_up f a (some (.inl (gk G 0, N, .inl g2))) ∧ ∀ j, j < N → g2 j = v) (fun (u : mS) t => mW G u.2 t) (mA G)) ([.ref a, .int v] : List Value).toArray s 0 0 (mA G)) (F0 m 5 ls []) := by
    intro N_5
    induction N_5 with
    | zero => intro k2 fL gL h0_ h1_ FL eL al hN; omega
    | succ N_5 ih_5 =>
      intro k2 fL gL h0_ h1_ FL eL al hN_5 H locs ls hH hl
      refine lv_iload_n hx hb dJ7_fill_53178_5 rfl (lv_at hl 2 rfl) ?_
      refine lv_iload_n hx hb dJ7_fill_53178_6 rfl (lv_at hl 3 rfl) ?_
      refine lv_icmp_ge (tgt := 20) hx hb dJ7_fill_53178_7 (by decide) (fun c_2 => ?_) (fun c_2 => ?_)
      · skip
        have ic_2 : ((N : Int) : Int) ≤ k2.toInt := ic_le nIN rfl c_2
        exact m_vret hx hb hr hlk hC hH (fun _ => (0, 0)) ⟨_, eL, fun j hj => al j (by omega)⟩ (Nat.le_of_ble_eq_true rfl) (Nat.le_of_ble_eq_true rfl) dJ7_fill_53178_20
      · skip
        have ic_2 : ((N : Int) : Int) > k2.toInt := ic_nle nIN rfl c_2
        refine lv_aload_n hx hb dJ7_fill_53178_10 rfl (lv_at hl 0 rfl) ?_
        refine lv_iload_n hx hb dJ7_fill_53178_11 rfl (lv_at hl 2 rfl) ?_
        refine lv_iload_n hx hb dJ7_fill_53178_12 rfl (lv_at hl 1 rfl) ?_
        refine m_iast hx hb hC hH FL (vp_in_iff.mpr ⟨by omega, by omega⟩) dJ7_fill_53178_13 (fun H locs hH => ?_)
        obtain ⟨f_3, ef_3⟩ : ∃ zz_ : mF, zz_ = va_up fL a (some (.inl (gk G 0, N, .inl (upd gL k2.toNatClampNeg v)))) := ⟨_, rfl⟩
        rw [← ef_3] at hH
        have F_4 : f_3 a = some (.inl (gk G 0, N, .inl (upd gL k2.toNatClampNeg v))) := by rw [ef_3]; exact va_up_self _ _ _
        have eL_4 : f_3 = va_up f a (some (.inl (gk G 0, N, .inl (upd gL k2.toNatClampNeg v)))) := by rw [ef_3, eL]; exact bx_uu _ _ _ _
        have al_4 : ∀ j : Nat, (j : Int) < k2.toInt + 1 → (upd gL k2.toNatClampNeg v) j = v := fillI al (ic_clN (rfl : k2.toInt = _) (by omega))
        obtain ⟨x_5, ex_5⟩ : ∃ y : Int32, y = k2 + 1 := ⟨_, rfl⟩
        have ix_5 : x_5.toInt = k2.toInt + 1 := ic_add ex_5 rfl kI_1 (by omega) (by omega)
        refine lv_iinc (v := x_5) (lv' := [(2, .int x_5), (0, .ref a), (1, .int v), (3, .int (nI N))]) hx hb dJ7_fill_53178_14 hl (k := 2) rfl (by rw [ex_5]; rfl) (by decide) rfl (fun ls hl => ?_)
        refine lv_goto (tgt := 5) hx hb dJ7_fill_53178_17 (by decide) ?_
        exact ih_5 x_5 f_3 (upd gL k2.toNatClampNeg v) (by omega) (by omega) F_4 eL_4 (fun j hj => al_4 j (by omega)) (by omega) _ _ _ hH (lv_sub hl [1, 2, 0, 3] rfl)
  exact loop_5 (((N : Int) - 0).toNat + 1) 0 f g (by have := kI_0; omega) (by have := kI_0; omega) Fq (up_self Fq) (fun j hj => by have := kI_0; omega) (by have := kI_0; omega) _ _ _ hH (lv_sub hl [2, 3, 1, 0] rfl)
set_option maxHeartbeats 4000000 in
set_option maxRecDepth 100000 in
theorem c_J7_fill_d0a16 (l : Launch) (G : mG) (f : mF) (a N : Nat) (hN : N < 2147483648) (g : Nat → Int64) (Fq : f a = some (.inl (gk G 1, N, .inr (.inl g)))) (v : Int64) : Met l yJ7_fill_d0a16 wsJ7_fill_d0a16 ({ frames := 0, cells := 0, slots := 0, locals := 0 }) (va_Pc [.ref a, .long v] (mW G f)) (va_Qv (fun (u : mS) => ∃ g2 : Nat → Int64, u.2 = va_up f a (some (.inl (gk G 1, N, .inr (.inl g2)))) ∧ ∀ j, j < N → g2 j = v) (fun (u : mS) t => mW G u.2 t) (mA G)) 0 0 (mA G) := by
  refine mMet [.ref a, .long v] (cc := cJ7_fill_d0a16) (maxL := 5) (ret := none) (by decide) rfl (Nat.le_of_ble_eq_true rfl) ?_
  intro p e s m below meth c ls hx hb hr hml hts hown hlk hnm hC hH hl
  have hl : lv_has ls 5 [(0, .ref a), (1, .long v)] := hl
  have nIN : (nI N).toInt = (N : Int) := nI_toInt (by omega)
  refine lv_iconst (v := 0) hx hb dJ7_fill_d0a16_0 (by decide) ?_
  refine lv_istore_n (lv' := [(3, .int 0), (0, .ref a), (1, .long v)]) hx hb dJ7_fill_d0a16_1 rfl hl (by decide) rfl (fun ls hl => ?_)
  refine lv_aload_n hx hb dJ7_fill_d0a16_2 rfl (lv_at hl 1 rfl) ?_
  refine m_alen hx hb hC hH 1 rfl Fq (v := nI N) rfl dJ7_fill_d0a16_3 ?_
  refine lv_istore (lv' := [(4, .int (nI N)), (3, .int 0), (0, .ref a), (1, .long v)]) hx hb dJ7_fill_d0a16_4 hl (by decide) rfl (fun ls hl => ?_)
  have loop_6 : ∀ (fuel_ : Nat) (k2 : Int32) (fL : mF) (gL : Nat → Int64) (h0_ : 0 ≤ k2.toInt) (h1_ : k2.toInt ≤ N) (FL : fL a = some (.inl (gk G 1, N, .inr (.inl gL)))) (eL : fL = va_up f a (some (.inl (gk G 1, N, .inr (.inl gL))))) (al : ∀ j : Nat, (j : Int) < k2.toInt → gL j = v) (_ : ((N : Int) - k2.toInt).toNat < fuel_) (H : Heap) (locs : List Loc) (ls : Array Slot) (_ : mH G s fL H locs) (_ : lv_has ls 5 [(0, .ref a), (1, .long v), (3, .int k2), (4, .int (nI N))]), W p l e ({ frames := 0, cells := 0, slots := 0, locals := 0 } : Room) s m ([.ref a, .long v] : List Value).toArray below meth c H locs 0 0 (MQ below (va_Qv (fun (u : mS) => ∃ g2 : Nat → Int64, u.2 = va_up f a (some (.inl (gk G 1, N, .inr (.inl g2)))) ∧ ∀ j, j < N → g2 j = v) (fun (u : mS) t => mW G u.2 t) (mA G)) ([.ref a, .long v] : List Value).toArray s 0 0 (mA G)) (F0 m 6 ls []) := by
    intro N_6
    induction N_6 with
    | zero => intro k2 fL gL h0_ h1_ FL eL al hN; omega
    | succ N_6 ih_6 =>
      intro k2 fL gL h0_ h1_ FL eL al hN_6 H locs ls hH hl
      refine lv_iload_n hx hb dJ7_fill_d0a16_6 rfl (lv_at hl 2 rfl) ?_
      refine lv_iload hx hb dJ7_fill_d0a16_7 (lv_at hl 3 rfl) ?_
      refine lv_icmp_ge (tgt := 22) hx hb dJ7_fill_d0a16_9 (by decide) (fun c_2 => ?_) (fun c_2 => ?_)
      · skip
        have ic_2 : ((N : Int) : Int) ≤ k2.toInt := ic_le nIN rfl c_2
        exact m_vret hx hb hr hlk hC hH (fun _ => (0, 0)) ⟨_, eL, fun j hj => al j (by omega)⟩ (Nat.le_of_ble_eq_true rfl) (Nat.le_of_ble_eq_true rfl) dJ7_fill_d0a16_22
      · skip
        have ic_2 : ((N : Int) : Int) > k2.toInt := ic_nle nIN rfl c_2
        refine lv_aload_n hx hb dJ7_fill_d0a16_12 rfl (lv_at hl 0 rfl) ?_
        refine lv_iload_n hx hb dJ7_fill_d0a16_13 rfl (lv_at hl 2 rfl) ?_
        refine lv_lload_n hx hb dJ7_fill_d0a16_14 rfl (lv_at hl 1 rfl) ?_
        refine m_last hx hb hC hH FL (vp_in_iff.mpr ⟨by omega, by omega⟩) dJ7_fill_d0a16_15 (fun H locs hH => ?_)
        obtain ⟨f_3, ef_3⟩ : ∃ zz_ : mF, zz_ = va_up fL a (some (.inl (gk G 1, N, .inr (.inl (vp_updL gL k2.toNatClampNeg v))))) := ⟨_, rfl⟩
        rw [← ef_3] at hH
        have F_4 : f_3 a = some (.inl (gk G 1, N, .inr (.inl (vp_updL gL k2.toNatClampNeg v)))) := by rw [ef_3]; exact va_up_self _ _ _
        have eL_4 : f_3 = va_up f a (some (.inl (gk G 1, N, .inr (.inl (vp_updL gL k2.toNatClampNeg v))))) := by rw [ef_3, eL]; exact bx_uu _ _ _ _
        have al_4 : ∀ j : Nat, (j : Int) < k2.toInt + 1 → (vp_updL gL k2.toNatClampNeg v) j = v := fillL al (ic_clN (rfl : k2.toInt = _) (by omega))
        obtain ⟨x_5, ex_5⟩ : ∃ y : Int32, y = k2 + 1 := ⟨_, rfl⟩
        have ix_5 : x_5.toInt = k2.toInt + 1 := ic_add ex_5 rfl kI_1 (by omega) (by omega)
        refine lv_iinc (v := x_5) (lv' := [(3, .int x_5), (0, .ref a), (1, .long v), (4, .int (nI N))]) hx hb dJ7_fill_d0a16_16 hl (k := 2) rfl (by rw [ex_5]; rfl) (by decide) rfl (fun ls hl => ?_)
        refine lv_goto (tgt := 6) hx hb dJ7_fill_d0a16_19 (by decide) ?_
        exact ih_6 x_5 f_3 (vp_updL gL k2.toNatClampNeg v) (by omega) (by omega) F_4 eL_4 (fun j hj => al_4 j (by omega)) (by omega) _ _ _ hH (lv_sub hl [1, 2, 0, 3] rfl)
  exact loop_6 (((N : Int) - 0).toNat + 1) 0 f g (by have := kI_0; omega) (by have := kI_0; omega) Fq (up_self Fq) (fun j hj => by have := kI_0; omega) (by have := kI_0; omega) _ _ _ hH (lv_sub hl [2, 3, 1, 0] rfl)
set_option maxHeartbeats 4000000 in
set_option maxRecDepth 100000 in
theorem c_J6_bitCount_0f7a4 (l : Launch) (G : mG) (f : mF) (x0 : Int32) : Met l yJ6_bitCount_0f7a4 wsJ6_bitCount_0f7a4 ({ frames := 0, cells := 0, slots := 0, locals := 0 }) (va_Pc [.int x0] (mW G f)) (va_Qi (fun (r : Int32) (u : mS) => u.2 = f) (fun (u : mS) t => mW G u.2 t) (mA G)) 0 0 (mA G) := by
  refine mMet [.int x0] (cc := cJ6_bitCount_0f7a4) (maxL := 1) (ret := (some .int)) (by decide) rfl (Nat.le_of_ble_eq_true rfl) ?_
  intro p e s m below meth c ls hx hb hr hml hts hown hlk hnm hC hH hl
  have hl : lv_has ls 1 [(0, .int x0)] := hl
  refine lv_iload_n hx hb dJ6_bitCount_0f7a4_0 rfl (lv_at hl 0 rfl) ?_
  refine lv_iload_n hx hb dJ6_bitCount_0f7a4_1 rfl (lv_at hl 0 rfl) ?_
  refine lv_iconst (v := 1) hx hb dJ6_bitCount_0f7a4_2 (by decide) ?_
  refine lv_iushr hx hb dJ6_bitCount_0f7a4_3 rfl ?_
  refine lv_topi (fun x_1 ex_1 => ?_)
  refine lv_ldcw (v := 1431655765) hx hb hown (hts (.constant RJ6 265 (1431655765)) (by decide +kernel)) dJ6_bitCount_0f7a4_4 ?_
  refine lv_iand hx hb dJ6_bitCount_0f7a4_7 ?_
  refine lv_topi (fun x_2 ex_2 => ?_)
  refine lv_isub hx hb dJ6_bitCount_0f7a4_8 ?_
  refine lv_topi (fun x_3 ex_3 => ?_)
  refine lv_istore_n (lv' := [(0, .int x_3)]) hx hb dJ6_bitCount_0f7a4_9 rfl hl (by decide) rfl (fun ls hl => ?_)
  refine lv_iload_n hx hb dJ6_bitCount_0f7a4_10 rfl (lv_at hl 0 rfl) ?_
  refine lv_ldcw (v := 858993459) hx hb hown (hts (.constant RJ6 266 (858993459)) (by decide +kernel)) dJ6_bitCount_0f7a4_11 ?_
  refine lv_iand hx hb dJ6_bitCount_0f7a4_14 ?_
  refine lv_topi (fun x_4 ex_4 => ?_)
  refine lv_iload_n hx hb dJ6_bitCount_0f7a4_15 rfl (lv_at hl 0 rfl) ?_
  refine lv_iconst (v := 2) hx hb dJ6_bitCount_0f7a4_16 (by decide) ?_
  refine lv_iushr hx hb dJ6_bitCount_0f7a4_17 rfl ?_
  refine lv_topi (fun x_5 ex_5 => ?_)
  refine lv_ldcw (v := 858993459) hx hb hown (hts (.constant RJ6 266 (858993459)) (by decide +kernel)) dJ6_bitCount_0f7a4_18 ?_
  refine lv_iand hx hb dJ6_bitCount_0f7a4_21 ?_
  refine lv_topi (fun x_6 ex_6 => ?_)
  refine lv_iadd hx hb dJ6_bitCount_0f7a4_22 ?_
  refine lv_topi (fun x_7 ex_7 => ?_)
  refine lv_istore_n (lv' := [(0, .int x_7)]) hx hb dJ6_bitCount_0f7a4_23 rfl hl (by decide) rfl (fun ls hl => ?_)
  refine lv_iload_n hx hb dJ6_bitCount_0f7a4_24 rfl (lv_at hl 0 rfl) ?_
  refine lv_iload_n hx hb dJ6_bitCount_0f7a4_25 rfl (lv_at hl 0 rfl) ?_
  refine lv_iconst (v := 4) hx hb dJ6_bitCount_0f7a4_26 (by decide) ?_
  refine lv_iushr hx hb dJ6_bitCount_0f7a4_27 rfl ?_
  refine lv_topi (fun x_8 ex_8 => ?_)
  refine lv_iadd hx hb dJ6_bitCount_0f7a4_28 ?_
  refine lv_topi (fun x_9 ex_9 => ?_)
  refine lv_ldcw (v := 252645135) hx hb hown (hts (.constant RJ6 267 (252645135)) (by decide +kernel)) dJ6_bitCount_0f7a4_29 ?_
  refine lv_iand hx hb dJ6_bitCount_0f7a4_32 ?_
  refine lv_topi (fun x_10 ex_10 => ?_)
  refine lv_istore_n (lv' := [(0, .int x_10)]) hx hb dJ6_bitCount_0f7a4_33 rfl hl (by decide) rfl (fun ls hl => ?_)
  refine lv_iload_n hx hb dJ6_bitCount_0f7a4_34 rfl (lv_at hl 0 rfl) ?_
  refine lv_iload_n hx hb dJ6_bitCount_0f7a4_35 rfl (lv_at hl 0 rfl) ?_
  refine lv_bipush (v := 8) hx hb dJ6_bitCount_0f7a4_36 (by decide) ?_
  refine lv_iushr hx hb dJ6_bitCount_0f7a4_38 rfl ?_
  refine lv_topi (fun x_11 ex_11 => ?_)
  refine lv_iadd hx hb dJ6_bitCount_0f7a4_39 ?_
  refine lv_topi (fun x_12 ex_12 => ?_)
  refine lv_istore_n (lv' := [(0, .int x_12)]) hx hb dJ6_bitCount_0f7a4_40 rfl hl (by decide) rfl (fun ls hl => ?_)
  refine lv_iload_n hx hb dJ6_bitCount_0f7a4_41 rfl (lv_at hl 0 rfl) ?_
  refine lv_iload_n hx hb dJ6_bitCount_0f7a4_42 rfl (lv_at hl 0 rfl) ?_
  refine lv_bipush (v := 16) hx hb dJ6_bitCount_0f7a4_43 (by decide) ?_
  refine lv_iushr hx hb dJ6_bitCount_0f7a4_45 rfl ?_
  refine lv_topi (fun x_13 ex_13 => ?_)
  refine lv_iadd hx hb dJ6_bitCount_0f7a4_46 ?_
  refine lv_topi (fun x_14 ex_14 => ?_)
  refine lv_istore_n (lv' := [(0, .int x_14)]) hx hb dJ6_bitCount_0f7a4_47 rfl hl (by decide) rfl (fun ls hl => ?_)
  refine lv_iload_n hx hb dJ6_bitCount_0f7a4_48 rfl (lv_at hl 0 rfl) ?_
  refine lv_bipush (v := 63) hx hb dJ6_bitCount_0f7a4_49 (by decide) ?_
  refine lv_iand hx hb dJ6_bitCount_0f7a4_51 ?_
  refine lv_topi (fun x_15 ex_15 => ?_)
  exact m_iret (v := x_15) hx hb hr hlk hC hH (fun _ => (0, 0)) rfl (Nat.le_of_ble_eq_true rfl) (Nat.le_of_ble_eq_true rfl) dJ6_bitCount_0f7a4_52
set_option maxHeartbeats 4000000 in
set_option maxRecDepth 100000 in
theorem c_X4_restart (l : Launch) (G : mG) (k : Nat → Nat) (rho : tR) (n : Nat) (T z : Nat → Nat) (st : Nat → Bool) (f : mF) (hI : IC G k rho n T z st f) (i : Nat) (hi : i < 3) : Met l yX4_restart wsX4_restart ({ frames := 1, cells := 0, slots := 0, locals := 23 }) (va_Pc [.ref (k (5 + 8 * i + 1))] (mW G f)) (va_Qv (fun (u : mS) => u.1 = rho ∧ IC G k rho n T z st u.2 ∧ frC k rho f rho u.2 ∧ kpT k i f u.2) (fun (u : mS) t => mW G u.2 t) (mA G)) 0 0 (mA G) := by
  refine mMet [.ref (k (5 + 8 * i + 1))] (cc := cX4_restart) (maxL := 1) (ret := none) (by decide) rfl (Nat.le_of_ble_eq_true rfl) ?_
  intro p e s m below meth c ls hx hb hr hml hts hown hlk hnm hC hH hl
  have hl : lv_has ls 1 [(0, .ref (k (5 + 8 * i + 1)))] := hl
  have hj := hI.2.2.2.2.1
  have hn24 := hI.2.2.2.2.2.2.1
  have hT3 := hI.2.2.2.2.2.2.2.1
  have hz32 := hI.2.2.2.2.2.2.2.2
  have nIn : (nI n).toInt = (n : Int) := nI_toInt (by omega)
  have hfr : frC k rho f rho f := frC.rf
  have hkt : kpT k i f f := fun c _ _ => rfl
  refine lv_aload_n hx hb dX4_restart_0 rfl (lv_at hl 0 rfl) ?_
  refine lv_iconst (v := 0) hx hb dX4_restart_1 (by decide) ?_
  obtain ⟨ct_1, cg_1, F_1, b1_1, b2_1⟩ : okTr k i (f (k (5 + 8 * i + 1))) := hI.run (i := i) (c := 1) hi (by decide)
  refine m_put (ci := 4) (v := .int 0) (C := RX4) (T := TX4) (N := 5) hx hb hC hH hts in_X4_restart_X4 tyX4 tyX4_ok nmX4 hown F_1 rfl 1 (by decide) (hts (.fieldLink RX4 21 "LazyState$Trace" "count" "I") (by decide +kernel)) rfl rfl rfl (Nat.le_of_ble_eq_true rfl) dX4_restart_2 (fun H locs hH => ?_)
  have hH : mH G s (va_up f (k (5 + 8 * i + 1)) (some (.inr (4, [.ref (k (5 + 8 * i + 2)), .int 0, .int cg_1, .ref (k (5 + 8 * i + 3)), .ref (k (5 + 8 * i + 4))])))) H locs := hH
  obtain ⟨f_2, ef_2⟩ : ∃ zz_ : mF, zz_ = va_up f (k (5 + 8 * i + 1)) (some (.inr (4, [.ref (k (5 + 8 * i + 2)), .int 0, .int cg_1, .ref (k (5 + 8 * i + 3)), .ref (k (5 + 8 * i + 4))]))) := ⟨_, rfl⟩
  rw [← ef_2] at hH
  have F_3 : f_2 (k (5 + 8 * i + 1)) = some (.inr (4, [.ref (k (5 + 8 * i + 2)), .int 0, .int cg_1, .ref (k (5 + 8 * i + 3)), .ref (k (5 + 8 * i + 4))])) := by rw [ef_2]; exact va_up_self _ _ _
  have hI : IC G k rho n T z st f_2 := hI.setTrX hi (Or.inl rfl) ef_2 (show okTr k i _ from ⟨_, _, rfl, by have := kI_0; omega, by have := kI_0; omega⟩) (xTr_0 F_3 rfl)
  have hkt := hkt.up hj hi 1 (by decide) (by decide) ef_2
  have hfr := hfr.upK (j := (5 + 8 * i + 1)) (by omega) ef_2
  refine lv_aload_n hx hb dX4_restart_5 rfl (lv_at hl 0 rfl) ?_
  refine lv_iconst (v := 0) hx hb dX4_restart_6 (by decide) ?_
  refine m_put (ci := 4) (v := .int 0) (C := RX4) (T := TX4) (N := 5) hx hb hC hH hts in_X4_restart_X4 tyX4 tyX4_ok nmX4 hown F_3 rfl 2 (by decide) (hts (.fieldLink RX4 25 "LazyState$Trace" "changedCount" "I") (by decide +kernel)) rfl rfl rfl (Nat.le_of_ble_eq_true rfl) dX4_restart_7 (fun H locs hH => ?_)
  have hH : mH G s (va_up f_2 (k (5 + 8 * i + 1)) (some (.inr (4, [.ref (k (5 + 8 * i + 2)), .int 0, .int 0, .ref (k (5 + 8 * i + 3)), .ref (k (5 + 8 * i + 4))])))) H locs := hH
  obtain ⟨f_4, ef_4⟩ : ∃ zz_ : mF, zz_ = va_up f_2 (k (5 + 8 * i + 1)) (some (.inr (4, [.ref (k (5 + 8 * i + 2)), .int 0, .int 0, .ref (k (5 + 8 * i + 3)), .ref (k (5 + 8 * i + 4))]))) := ⟨_, rfl⟩
  rw [← ef_4] at hH
  have F_5 : f_4 (k (5 + 8 * i + 1)) = some (.inr (4, [.ref (k (5 + 8 * i + 2)), .int 0, .int 0, .ref (k (5 + 8 * i + 3)), .ref (k (5 + 8 * i + 4))])) := by rw [ef_4]; exact va_up_self _ _ _
  have hI : IC G k rho n T z st f_4 := hI.setTr hi F_3 ef_4 rfl ⟨_, _, rfl, by have := kI_0; omega, by have := kI_0; omega⟩
  have hkt := hkt.up hj hi 1 (by decide) (by decide) ef_4
  have hfr := hfr.upK (j := (5 + 8 * i + 1)) (by omega) ef_4
  refine lv_aload_n hx hb dX4_restart_10 rfl (lv_at hl 0 rfl) ?_
  refine m_get (ci := 4) (v := .ref (k (5 + 8 * i + 3))) (C := RX4) (T := TX4) (N := 5) hx hb hC hH hts in_X4_restart_X4 hown F_5 rfl 3 (by decide) (hts (.fieldLink RX4 15 "LazyState$Trace" "readBits" "[I") (by decide +kernel)) rfl dX4_restart_11 ?_
  refine lv_iconst (v := 0) hx hb dX4_restart_14 (by decide) ?_
  obtain ⟨g_6, hg_6, hp_6⟩ : okI G 0 24 (fun _ => True) (f_4 (k (5 + 8 * i + 3))) := hI.run (i := i) (c := 3) hi (by decide)
  refine m_gov hH (va_runS (As := [.ref (k (5 + 8 * i + 3)), .int 0]) (rest := []) ⟨hx, hb, hml, hown, hts⟩ (c_J7_fill_53178 l G f_4 (k (5 + 8 * i + 3)) 24 (by decide) g_6 hg_6 0) (va_cwS 2 hts gX4_restart_J7_fill_53178 rfl rfl rfl (by decide +kernel) ⟨Nat.le_of_ble_eq_true rfl, Nat.le_of_ble_eq_true rfl⟩) (m_preS hC hH) rfl rfl hl.1 rfl (lv_room (Nat.le_of_ble_eq_true rfl)) dX4_restart_15 ⟨Nat.le_of_ble_eq_true rfl, Nat.le_of_ble_eq_true rfl⟩) (fun rho_9 f_8 H locs hw hH => ?_)
  obtain ⟨g2_9, ef_8, -⟩ := hw
  have ef_8 : f_8 = va_up f_4 (k (5 + 8 * i + 3)) _ := ef_8
  have F_f_8 := upk F_5 ef_8 (neC hj (by omega) (by omega) (by omega))
  have hI : IC G k rho n T z st f_8 := hI.setTrX hi (c := 3) (by omega) ef_8 (show okI G 0 24 (fun _ => True) _ from ⟨_, rfl, trivial⟩) (xTr_0 F_f_8 rfl)
  have hfr := hfr.upK (j := (5 + 8 * i + 3)) (by omega) ef_8
  have hkt := hkt.up hj hi 3 (by decide) (by decide) ef_8
  refine lv_aload_n hx hb dX4_restart_18 rfl (lv_at hl 0 rfl) ?_
  refine m_get (ci := 4) (v := .ref (k (5 + 8 * i + 4))) (C := RX4) (T := TX4) (N := 5) hx hb hC hH hts in_X4_restart_X4 hown F_f_8 rfl 4 (by decide) (hts (.fieldLink RX4 18 "LazyState$Trace" "changedBits" "[I") (by decide +kernel)) rfl dX4_restart_19 ?_
  refine lv_iconst (v := 0) hx hb dX4_restart_22 (by decide) ?_
  obtain ⟨g_10, hg_10, hp_10⟩ : okI G 0 24 (fun _ => True) (f_8 (k (5 + 8 * i + 4))) := hI.run (i := i) (c := 4) hi (by decide)
  refine m_gov hH (va_runS (As := [.ref (k (5 + 8 * i + 4)), .int 0]) (rest := []) ⟨hx, hb, hml, hown, hts⟩ (c_J7_fill_53178 l G f_8 (k (5 + 8 * i + 4)) 24 (by decide) g_10 hg_10 0) (va_cwS 2 hts gX4_restart_J7_fill_53178 rfl rfl rfl (by decide +kernel) ⟨Nat.le_of_ble_eq_true rfl, Nat.le_of_ble_eq_true rfl⟩) (m_preS hC hH) rfl rfl hl.1 rfl (lv_room (Nat.le_of_ble_eq_true rfl)) dX4_restart_23 ⟨Nat.le_of_ble_eq_true rfl, Nat.le_of_ble_eq_true rfl⟩) (fun rho_13 f_12 H locs hw hH => ?_)
  obtain ⟨g2_13, ef_12, -⟩ := hw
  have ef_12 : f_12 = va_up f_8 (k (5 + 8 * i + 4)) _ := ef_12
  have F_f_12 := upk F_f_8 ef_12 (neC hj (by omega) (by omega) (by omega))
  have hI : IC G k rho n T z st f_12 := hI.setTrX hi (c := 4) (by omega) ef_12 (show okI G 0 24 (fun _ => True) _ from ⟨_, rfl, trivial⟩) (xTr_0 F_f_12 rfl)
  have hfr := hfr.upK (j := (5 + 8 * i + 4)) (by omega) ef_12
  have hkt := hkt.up hj hi 4 (by decide) (by decide) ef_12
  exact m_vret hx hb hr hlk hC hH rho ⟨rfl, hI, hfr, hkt⟩ (Nat.le_of_ble_eq_true rfl) (Nat.le_of_ble_eq_true rfl) dX4_restart_26
set_option maxHeartbeats 4000000 in
set_option maxRecDepth 100000 in
theorem c_X4_noteRead (l : Launch) (G : mG) (k : Nat → Nat) (rho : tR) (n : Nat) (T z : Nat → Nat) (st : Nat → Bool) (f : mF) (hI : IC G k rho n T z st f) (i : Nat) (hi : i < 3) (o ff : Int32) (ho : 0 ≤ o.toInt ∧ o.toInt < n) (hff : 0 ≤ ff.toInt ∧ ff.toInt < 8) : Met l yX4_noteRead wsX4_noteRead ({ frames := 0, cells := 0, slots := 0, locals := 0 }) (va_Pc [.ref (k (5 + 8 * i + 1)), .int o, .int ff] (mW G f)) (va_Qv (fun (u : mS) => u.1 = rho ∧ IC G k rho n T z st u.2 ∧ frC k rho f rho u.2 ∧ kpT k i f u.2) (fun (u : mS) t => mW G u.2 t) (mA G)) 0 0 (mA G) := by
  refine mMet [.ref (k (5 + 8 * i + 1)), .int o, .int ff] (cc := cX4_noteRead) (maxL := 3) (ret := none) (by decide) rfl (Nat.le_of_ble_eq_true rfl) ?_
  intro p e s m below meth c ls hx hb hr hml hts hown hlk hnm hC hH hl
  have hl : lv_has ls 3 [(0, .ref (k (5 + 8 * i + 1))), (1, .int o), (2, .int ff)] := hl
  have hj := hI.2.2.2.2.1
  have hn24 := hI.2.2.2.2.2.2.1
  have hT3 := hI.2.2.2.2.2.2.2.1
  have hz32 := hI.2.2.2.2.2.2.2.2
  have nIn : (nI n).toInt = (n : Int) := nI_toInt (by omega)
  have hfr : frC k rho f rho f := frC.rf
  have hkt : kpT k i f f := fun c _ _ => rfl
  obtain ⟨ct_1, cg_1, F_1, b1_1, b2_1⟩ : okTr k i (f (k (5 + 8 * i + 1))) := hI.run (i := i) (c := 1) hi (by decide)
  obtain ⟨g_2, hg_2, hp_2⟩ : okI G 0 24 (fun _ => True) (f (k (5 + 8 * i + 3))) := hI.run (i := i) (c := 3) hi (by decide)
  obtain ⟨g_3, hg_3, hp_3⟩ : okI G 0 24 (fun _ => True) (f (k (5 + 8 * i + 4))) := hI.run (i := i) (c := 4) hi (by decide)
  have hcnt := hI.2.2.2.1 i hi _ _ _ _ F_1 rfl hg_2 hg_3
  have p3_ := pcs_le g_2 24
  have p4_ := pcs_le g_3 24
  refine lv_aload_n hx hb dX4_noteRead_0 rfl (lv_at hl 0 rfl) ?_
  refine m_get (ci := 4) (v := .ref (k (5 + 8 * i + 3))) (C := RX4) (T := TX4) (N := 5) hx hb hC hH hts in_X4_noteRead_X4 hown F_1 rfl 3 (by decide) (hts (.fieldLink RX4 15 "LazyState$Trace" "readBits" "[I") (by decide +kernel)) rfl dX4_noteRead_1 ?_
  refine lv_iload_n hx hb dX4_noteRead_4 rfl (lv_at hl 1 rfl) ?_
  refine m_iald hx hb hC hH hg_2 (vp_in_iff.mpr ⟨by omega, by omega⟩) dX4_noteRead_5 ?_
  refine lv_topi (fun x_4 ex_4 => ?_)
  refine lv_iconst (v := 1) hx hb dX4_noteRead_6 (by decide) ?_
  refine lv_iload_n hx hb dX4_noteRead_7 rfl (lv_at hl 2 rfl) ?_
  refine lv_ishl hx hb dX4_noteRead_8 ?_
  refine lv_topi (fun x_5 ex_5 => ?_)
  refine lv_iand hx hb dX4_noteRead_9 ?_
  refine lv_topi (fun x_6 ex_6 => ?_)
  skip
  refine lv_if_ne (tgt := 52) hx hb dX4_noteRead_10 (by decide) (fun c_7 => ?_) (fun c_7 => ?_)
  · skip
    have ic_7 : (x_6.toInt : Int) ≠ 0 := ic_ne rfl kI_0 c_7
    exact m_vret hx hb hr hlk hC hH rho ⟨rfl, hI, hfr, hkt⟩ (Nat.le_of_ble_eq_true rfl) (Nat.le_of_ble_eq_true rfl) dX4_noteRead_52
  · skip
    have ic_7 : (x_6.toInt : Int) = 0 := ic_eq rfl kI_0 c_7
    have zr_ : x_4 &&& x_5 = 0 := by rw [← ex_6]; exact c_7
    rw [ex_4, ex_5] at zr_
    refine lv_aload_n hx hb dX4_noteRead_13 rfl (lv_at hl 0 rfl) ?_
    refine m_get (ci := 4) (v := .ref (k (5 + 8 * i + 3))) (C := RX4) (T := TX4) (N := 5) hx hb hC hH hts in_X4_noteRead_X4 hown F_1 rfl 3 (by decide) (hts (.fieldLink RX4 15 "LazyState$Trace" "readBits" "[I") (by decide +kernel)) rfl dX4_noteRead_14 ?_
    refine lv_iload_n hx hb dX4_noteRead_17 rfl (lv_at hl 1 rfl) ?_
    refine lv_dup2_11 hx hb dX4_noteRead_18 rfl rfl ?_
    refine m_iald hx hb hC hH hg_2 (vp_in_iff.mpr ⟨by omega, by omega⟩) dX4_noteRead_19 ?_
    refine lv_topi (fun x_8 ex_8 => ?_)
    refine lv_iconst (v := 1) hx hb dX4_noteRead_20 (by decide) ?_
    refine lv_iload_n hx hb dX4_noteRead_21 rfl (lv_at hl 2 rfl) ?_
    refine lv_ishl hx hb dX4_noteRead_22 ?_
    refine lv_topi (fun x_9 ex_9 => ?_)
    refine lv_ior hx hb dX4_noteRead_23 ?_
    refine lv_topi (fun x_10 ex_10 => ?_)
    refine m_iast hx hb hC hH hg_2 (vp_in_iff.mpr ⟨by omega, by omega⟩) dX4_noteRead_24 (fun H locs hH => ?_)
    obtain ⟨f_11, ef_11⟩ : ∃ zz_ : mF, zz_ = va_up f (k (5 + 8 * i + 3)) (some (.inl (gk G 0, 24, .inl (upd g_2 o.toNatClampNeg x_10)))) := ⟨_, rfl⟩
    rw [← ef_11] at hH
    have F_12 := upk F_1 ef_11 (neC hj (i := (5 + 8 * i + 1)) (j := (5 + 8 * i + 3)) (by omega) (by omega) (by omega))
    have hg_13 := upk hg_3 ef_11 (neC hj (i := (5 + 8 * i + 4)) (j := (5 + 8 * i + 3)) (by omega) (by omega) (by omega))
    have pq_ : pcs (upd g_2 o.toNatClampNeg x_10) 24 = pcs g_2 24 + 1 := pcs_up (ic_cl (rfl : o.toInt = _) (by omega) (by omega)) (by rw [ex_10, ex_8, ex_9]; exact pc8_or (by omega) (by omega) zr_)
    have pl_ := pcs_le (upd g_2 o.toNatClampNeg x_10) 24
    have hgn_ : f_11 (k (5 + 8 * i + 3)) = some (.inl (gk G 0, 24, .inl (upd g_2 o.toNatClampNeg x_10))) := by rw [ef_11]; exact va_up_self _ _ _
    have hgo_ := upk hg_3 ef_11 (neC hj (by omega) (by omega) (by omega))
    have hI : IC G k rho n T z st f_11 := hI.setTrX hi (c := 3) (by omega) ef_11 (show okI G 0 24 (fun _ => True) _ from ⟨_, rfl, trivial⟩) (xTr_mk F_12 rfl hgn_ hgo_ (by omega))
    have hkt := hkt.up hj hi 3 (by decide) (by decide) ef_11
    have hfr := hfr.upK (j := (5 + 8 * i + 3)) (by omega) ef_11
    refine lv_aload_n hx hb dX4_noteRead_25 rfl (lv_at hl 0 rfl) ?_
    refine m_get (ci := 4) (v := .ref (k (5 + 8 * i + 2))) (C := RX4) (T := TX4) (N := 5) hx hb hC hH hts in_X4_noteRead_X4 hown F_12 rfl 0 (by decide) (hts (.fieldLink RX4 9 "LazyState$Trace" "entries" "[I") (by decide +kernel)) rfl dX4_noteRead_26 ?_
    refine lv_aload_n hx hb dX4_noteRead_29 rfl (lv_at hl 0 rfl) ?_
    refine m_get (ci := 4) (v := .int ct_1) (C := RX4) (T := TX4) (N := 5) hx hb hC hH hts in_X4_noteRead_X4 hown F_12 rfl 1 (by decide) (hts (.fieldLink RX4 21 "LazyState$Trace" "count" "I") (by decide +kernel)) rfl dX4_noteRead_30 ?_
    refine lv_iconst (v := 2) hx hb dX4_noteRead_33 (by decide) ?_
    refine lv_bipush (v := 8) hx hb dX4_noteRead_34 (by decide) ?_
    refine lv_iload_n hx hb dX4_noteRead_36 rfl (lv_at hl 1 rfl) ?_
    refine lv_imul hx hb dX4_noteRead_37 ?_
    refine lv_topi (fun x_15 ex_15 => ?_)
    have ix_15 : x_15.toInt = 8 * o.toInt := ic_mul ex_15 kI_8 rfl (by omega) (by omega)
    refine lv_iload_n hx hb dX4_noteRead_38 rfl (lv_at hl 2 rfl) ?_
    refine lv_iadd hx hb dX4_noteRead_39 ?_
    refine lv_topi (fun x_16 ex_16 => ?_)
    have ix_16 : x_16.toInt = x_15.toInt + ff.toInt := ic_add ex_16 rfl rfl (by omega) (by omega)
    refine lv_imul hx hb dX4_noteRead_40 ?_
    refine lv_topi (fun x_17 ex_17 => ?_)
    have ix_17 : x_17.toInt = 2 * x_16.toInt := ic_mul ex_17 kI_2 rfl (by omega) (by omega)
    obtain ⟨g_18, hg_18, hp_18⟩ : okI G 0 384 (fun _ => True) (f_11 (k (5 + 8 * i + 2))) := hI.run (i := i) (c := 2) hi (by decide)
    refine m_iast hx hb hC hH hg_18 (vp_in_iff.mpr ⟨by omega, by omega⟩) dX4_noteRead_41 (fun H locs hH => ?_)
    obtain ⟨f_19, ef_19⟩ : ∃ zz_ : mF, zz_ = va_up f_11 (k (5 + 8 * i + 2)) (some (.inl (gk G 0, 384, .inl (upd g_18 ct_1.toNatClampNeg x_17)))) := ⟨_, rfl⟩
    rw [← ef_19] at hH
    have F_20 := upk F_12 ef_19 (neC hj (i := (5 + 8 * i + 1)) (j := (5 + 8 * i + 2)) (by omega) (by omega) (by omega))
    have hg_21 := upk hgo_ ef_19 (neC hj (i := (5 + 8 * i + 4)) (j := (5 + 8 * i + 2)) (by omega) (by omega) (by omega))
    have hg_22 := upk hgn_ ef_19 (neC hj (i := (5 + 8 * i + 3)) (j := (5 + 8 * i + 2)) (by omega) (by omega) (by omega))
    have hI : IC G k rho n T z st f_19 := hI.set (j := (5 + 8 * i + 2)) (by omega) ef_19 (fun i_ hi_ => by omega) (by rw [okC_R hi (by decide)]; exact ⟨_, rfl, trivial⟩)
    have hkt := hkt.up hj hi 2 (by decide) (by decide) ef_19
    have hfr := hfr.upK (j := (5 + 8 * i + 2)) (by omega) ef_19
    refine lv_aload_n hx hb dX4_noteRead_42 rfl (lv_at hl 0 rfl) ?_
    refine lv_dup hx hb dX4_noteRead_43 rfl ?_
    refine m_get (ci := 4) (v := .int ct_1) (C := RX4) (T := TX4) (N := 5) hx hb hC hH hts in_X4_noteRead_X4 hown F_20 rfl 1 (by decide) (hts (.fieldLink RX4 21 "LazyState$Trace" "count" "I") (by decide +kernel)) rfl dX4_noteRead_44 ?_
    refine lv_iconst (v := 1) hx hb dX4_noteRead_47 (by decide) ?_
    refine lv_iadd hx hb dX4_noteRead_48 ?_
    refine lv_topi (fun x_23 ex_23 => ?_)
    have ix_23 : x_23.toInt = ct_1.toInt + 1 := ic_add ex_23 rfl kI_1 (by omega) (by omega)
    refine m_put (ci := 4) (v := .int x_23) (C := RX4) (T := TX4) (N := 5) hx hb hC hH hts in_X4_noteRead_X4 tyX4 tyX4_ok nmX4 hown F_20 rfl 1 (by decide) (hts (.fieldLink RX4 21 "LazyState$Trace" "count" "I") (by decide +kernel)) rfl rfl rfl (Nat.le_of_ble_eq_true rfl) dX4_noteRead_49 (fun H locs hH => ?_)
    have hH : mH G s (va_up f_19 (k (5 + 8 * i + 1)) (some (.inr (4, [.ref (k (5 + 8 * i + 2)), .int x_23, .int cg_1, .ref (k (5 + 8 * i + 3)), .ref (k (5 + 8 * i + 4))])))) H locs := hH
    obtain ⟨f_24, ef_24⟩ : ∃ zz_ : mF, zz_ = va_up f_19 (k (5 + 8 * i + 1)) (some (.inr (4, [.ref (k (5 + 8 * i + 2)), .int x_23, .int cg_1, .ref (k (5 + 8 * i + 3)), .ref (k (5 + 8 * i + 4))]))) := ⟨_, rfl⟩
    rw [← ef_24] at hH
    have hg_25 := upk hg_21 ef_24 (neC hj (i := (5 + 8 * i + 4)) (j := (5 + 8 * i + 1)) (by omega) (by omega) (by omega))
    have hg_26 := upk hg_22 ef_24 (neC hj (i := (5 + 8 * i + 3)) (j := (5 + 8 * i + 1)) (by omega) (by omega) (by omega))
    have F_27 : f_24 (k (5 + 8 * i + 1)) = some (.inr (4, [.ref (k (5 + 8 * i + 2)), .int x_23, .int cg_1, .ref (k (5 + 8 * i + 3)), .ref (k (5 + 8 * i + 4))])) := by rw [ef_24]; exact va_up_self _ _ _
    have h3_ := upk hg_22 ef_24 (neC hj (by omega) (by omega) (by omega))
    have h4_ := upk hg_21 ef_24 (neC hj (by omega) (by omega) (by omega))
    have hI : IC G k rho n T z st f_24 := hI.setTrX hi (Or.inl rfl) ef_24 (show okTr k i _ from ⟨_, _, rfl, by omega, by omega⟩) (xTr_mk F_27 rfl h3_ h4_ (by omega))
    have hkt := hkt.up hj hi 1 (by decide) (by decide) ef_24
    have hfr := hfr.upK (j := (5 + 8 * i + 1)) (by omega) ef_24
    exact m_vret hx hb hr hlk hC hH rho ⟨rfl, hI, hfr, hkt⟩ (Nat.le_of_ble_eq_true rfl) (Nat.le_of_ble_eq_true rfl) dX4_noteRead_52
set_option maxHeartbeats 4000000 in
set_option maxRecDepth 100000 in
theorem c_X4_noteChanged (l : Launch) (G : mG) (k : Nat → Nat) (rho : tR) (n : Nat) (T z : Nat → Nat) (st : Nat → Bool) (f : mF) (hI : IC G k rho n T z st f) (i : Nat) (hi : i < 3) (o ff : Int32) (ho : 0 ≤ o.toInt ∧ o.toInt < n) (hff : 0 ≤ ff.toInt ∧ ff.toInt < 8) : Met l yX4_noteChanged wsX4_noteChanged ({ frames := 0, cells := 0, slots := 0, locals := 0 }) (va_Pc [.ref (k (5 + 8 * i + 1)), .int o, .int ff] (mW G f)) (va_Qv (fun (u : mS) => u.1 = rho ∧ IC G k rho n T z st u.2 ∧ frC k rho f rho u.2 ∧ kpT k i f u.2) (fun (u : mS) t => mW G u.2 t) (mA G)) 0 0 (mA G) := by
  refine mMet [.ref (k (5 + 8 * i + 1)), .int o, .int ff] (cc := cX4_noteChanged) (maxL := 3) (ret := none) (by decide) rfl (Nat.le_of_ble_eq_true rfl) ?_
  intro p e s m below meth c ls hx hb hr hml hts hown hlk hnm hC hH hl
  have hl : lv_has ls 3 [(0, .ref (k (5 + 8 * i + 1))), (1, .int o), (2, .int ff)] := hl
  have hj := hI.2.2.2.2.1
  have hn24 := hI.2.2.2.2.2.2.1
  have hT3 := hI.2.2.2.2.2.2.2.1
  have hz32 := hI.2.2.2.2.2.2.2.2
  have nIn : (nI n).toInt = (n : Int) := nI_toInt (by omega)
  have hfr : frC k rho f rho f := frC.rf
  have hkt : kpT k i f f := fun c _ _ => rfl
  obtain ⟨ct_1, cg_1, F_1, b1_1, b2_1⟩ : okTr k i (f (k (5 + 8 * i + 1))) := hI.run (i := i) (c := 1) hi (by decide)
  obtain ⟨g_2, hg_2, hp_2⟩ : okI G 0 24 (fun _ => True) (f (k (5 + 8 * i + 3))) := hI.run (i := i) (c := 3) hi (by decide)
  obtain ⟨g_3, hg_3, hp_3⟩ : okI G 0 24 (fun _ => True) (f (k (5 + 8 * i + 4))) := hI.run (i := i) (c := 4) hi (by decide)
  have hcnt := hI.2.2.2.1 i hi _ _ _ _ F_1 rfl hg_2 hg_3
  have p3_ := pcs_le g_2 24
  have p4_ := pcs_le g_3 24
  refine lv_aload_n hx hb dX4_noteChanged_0 rfl (lv_at hl 0 rfl) ?_
  refine m_get (ci := 4) (v := .ref (k (5 + 8 * i + 4))) (C := RX4) (T := TX4) (N := 5) hx hb hC hH hts in_X4_noteChanged_X4 hown F_1 rfl 4 (by decide) (hts (.fieldLink RX4 18 "LazyState$Trace" "changedBits" "[I") (by decide +kernel)) rfl dX4_noteChanged_1 ?_
  refine lv_iload_n hx hb dX4_noteChanged_4 rfl (lv_at hl 1 rfl) ?_
  refine m_iald hx hb hC hH hg_3 (vp_in_iff.mpr ⟨by omega, by omega⟩) dX4_noteChanged_5 ?_
  refine lv_topi (fun x_4 ex_4 => ?_)
  refine lv_iconst (v := 1) hx hb dX4_noteChanged_6 (by decide) ?_
  refine lv_iload_n hx hb dX4_noteChanged_7 rfl (lv_at hl 2 rfl) ?_
  refine lv_ishl hx hb dX4_noteChanged_8 ?_
  refine lv_topi (fun x_5 ex_5 => ?_)
  refine lv_iand hx hb dX4_noteChanged_9 ?_
  refine lv_topi (fun x_6 ex_6 => ?_)
  skip
  refine lv_if_ne (tgt := 64) hx hb dX4_noteChanged_10 (by decide) (fun c_7 => ?_) (fun c_7 => ?_)
  · skip
    have ic_7 : (x_6.toInt : Int) ≠ 0 := ic_ne rfl kI_0 c_7
    exact m_vret hx hb hr hlk hC hH rho ⟨rfl, hI, hfr, hkt⟩ (Nat.le_of_ble_eq_true rfl) (Nat.le_of_ble_eq_true rfl) dX4_noteChanged_64
  · skip
    have ic_7 : (x_6.toInt : Int) = 0 := ic_eq rfl kI_0 c_7
    have zr_ : x_4 &&& x_5 = 0 := by rw [← ex_6]; exact c_7
    rw [ex_4, ex_5] at zr_
    refine lv_aload_n hx hb dX4_noteChanged_13 rfl (lv_at hl 0 rfl) ?_
    refine m_get (ci := 4) (v := .ref (k (5 + 8 * i + 4))) (C := RX4) (T := TX4) (N := 5) hx hb hC hH hts in_X4_noteChanged_X4 hown F_1 rfl 4 (by decide) (hts (.fieldLink RX4 18 "LazyState$Trace" "changedBits" "[I") (by decide +kernel)) rfl dX4_noteChanged_14 ?_
    refine lv_iload_n hx hb dX4_noteChanged_17 rfl (lv_at hl 1 rfl) ?_
    refine lv_dup2_11 hx hb dX4_noteChanged_18 rfl rfl ?_
    refine m_iald hx hb hC hH hg_3 (vp_in_iff.mpr ⟨by omega, by omega⟩) dX4_noteChanged_19 ?_
    refine lv_topi (fun x_8 ex_8 => ?_)
    refine lv_iconst (v := 1) hx hb dX4_noteChanged_20 (by decide) ?_
    refine lv_iload_n hx hb dX4_noteChanged_21 rfl (lv_at hl 2 rfl) ?_
    refine lv_ishl hx hb dX4_noteChanged_22 ?_
    refine lv_topi (fun x_9 ex_9 => ?_)
    refine lv_ior hx hb dX4_noteChanged_23 ?_
    refine lv_topi (fun x_10 ex_10 => ?_)
    refine m_iast hx hb hC hH hg_3 (vp_in_iff.mpr ⟨by omega, by omega⟩) dX4_noteChanged_24 (fun H locs hH => ?_)
    obtain ⟨f_11, ef_11⟩ : ∃ zz_ : mF, zz_ = va_up f (k (5 + 8 * i + 4)) (some (.inl (gk G 0, 24, .inl (upd g_3 o.toNatClampNeg x_10)))) := ⟨_, rfl⟩
    rw [← ef_11] at hH
    have F_12 := upk F_1 ef_11 (neC hj (i := (5 + 8 * i + 1)) (j := (5 + 8 * i + 4)) (by omega) (by omega) (by omega))
    have hg_13 := upk hg_2 ef_11 (neC hj (i := (5 + 8 * i + 3)) (j := (5 + 8 * i + 4)) (by omega) (by omega) (by omega))
    have pq_ : pcs (upd g_3 o.toNatClampNeg x_10) 24 = pcs g_3 24 + 1 := pcs_up (ic_cl (rfl : o.toInt = _) (by omega) (by omega)) (by rw [ex_10, ex_8, ex_9]; exact pc8_or (by omega) (by omega) zr_)
    have pl_ := pcs_le (upd g_3 o.toNatClampNeg x_10) 24
    have hgn_ : f_11 (k (5 + 8 * i + 4)) = some (.inl (gk G 0, 24, .inl (upd g_3 o.toNatClampNeg x_10))) := by rw [ef_11]; exact va_up_self _ _ _
    have hgo_ := upk hg_2 ef_11 (neC hj (by omega) (by omega) (by omega))
    have hI : IC G k rho n T z st f_11 := hI.setTrX hi (c := 4) (by omega) ef_11 (show okI G 0 24 (fun _ => True) _ from ⟨_, rfl, trivial⟩) (xTr_mk F_12 rfl hgo_ hgn_ (by omega))
    have hkt := hkt.up hj hi 4 (by decide) (by decide) ef_11
    have hfr := hfr.upK (j := (5 + 8 * i + 4)) (by omega) ef_11
    refine lv_aload_n hx hb dX4_noteChanged_25 rfl (lv_at hl 0 rfl) ?_
    refine m_get (ci := 4) (v := .ref (k (5 + 8 * i + 2))) (C := RX4) (T := TX4) (N := 5) hx hb hC hH hts in_X4_noteChanged_X4 hown F_12 rfl 0 (by decide) (hts (.fieldLink RX4 9 "LazyState$Trace" "entries" "[I") (by decide +kernel)) rfl dX4_noteChanged_26 ?_
    refine lv_aload_n hx hb dX4_noteChanged_29 rfl (lv_at hl 0 rfl) ?_
    refine m_get (ci := 4) (v := .int ct_1) (C := RX4) (T := TX4) (N := 5) hx hb hC hH hts in_X4_noteChanged_X4 hown F_12 rfl 1 (by decide) (hts (.fieldLink RX4 21 "LazyState$Trace" "count" "I") (by decide +kernel)) rfl dX4_noteChanged_30 ?_
    refine lv_iconst (v := 2) hx hb dX4_noteChanged_33 (by decide) ?_
    refine lv_bipush (v := 8) hx hb dX4_noteChanged_34 (by decide) ?_
    refine lv_iload_n hx hb dX4_noteChanged_36 rfl (lv_at hl 1 rfl) ?_
    refine lv_imul hx hb dX4_noteChanged_37 ?_
    refine lv_topi (fun x_15 ex_15 => ?_)
    have ix_15 : x_15.toInt = 8 * o.toInt := ic_mul ex_15 kI_8 rfl (by omega) (by omega)
    refine lv_iload_n hx hb dX4_noteChanged_38 rfl (lv_at hl 2 rfl) ?_
    refine lv_iadd hx hb dX4_noteChanged_39 ?_
    refine lv_topi (fun x_16 ex_16 => ?_)
    have ix_16 : x_16.toInt = x_15.toInt + ff.toInt := ic_add ex_16 rfl rfl (by omega) (by omega)
    refine lv_imul hx hb dX4_noteChanged_40 ?_
    refine lv_topi (fun x_17 ex_17 => ?_)
    have ix_17 : x_17.toInt = 2 * x_16.toInt := ic_mul ex_17 kI_2 rfl (by omega) (by omega)
    refine lv_iconst (v := 1) hx hb dX4_noteChanged_41 (by decide) ?_
    refine lv_iadd hx hb dX4_noteChanged_42 ?_
    refine lv_topi (fun x_18 ex_18 => ?_)
    have ix_18 : x_18.toInt = x_17.toInt + 1 := ic_add ex_18 rfl kI_1 (by omega) (by omega)
    obtain ⟨g_19, hg_19, hp_19⟩ : okI G 0 384 (fun _ => True) (f_11 (k (5 + 8 * i + 2))) := hI.run (i := i) (c := 2) hi (by decide)
    refine m_iast hx hb hC hH hg_19 (vp_in_iff.mpr ⟨by omega, by omega⟩) dX4_noteChanged_43 (fun H locs hH => ?_)
    obtain ⟨f_20, ef_20⟩ : ∃ zz_ : mF, zz_ = va_up f_11 (k (5 + 8 * i + 2)) (some (.inl (gk G 0, 384, .inl (upd g_19 ct_1.toNatClampNeg x_18)))) := ⟨_, rfl⟩
    rw [← ef_20] at hH
    have F_21 := upk F_12 ef_20 (neC hj (i := (5 + 8 * i + 1)) (j := (5 + 8 * i + 2)) (by omega) (by omega) (by omega))
    have hg_22 := upk hgo_ ef_20 (neC hj (i := (5 + 8 * i + 3)) (j := (5 + 8 * i + 2)) (by omega) (by omega) (by omega))
    have hg_23 := upk hgn_ ef_20 (neC hj (i := (5 + 8 * i + 4)) (j := (5 + 8 * i + 2)) (by omega) (by omega) (by omega))
    have hI : IC G k rho n T z st f_20 := hI.set (j := (5 + 8 * i + 2)) (by omega) ef_20 (fun i_ hi_ => by omega) (by rw [okC_R hi (by decide)]; exact ⟨_, rfl, trivial⟩)
    have hkt := hkt.up hj hi 2 (by decide) (by decide) ef_20
    have hfr := hfr.upK (j := (5 + 8 * i + 2)) (by omega) ef_20
    refine lv_aload_n hx hb dX4_noteChanged_44 rfl (lv_at hl 0 rfl) ?_
    refine lv_dup hx hb dX4_noteChanged_45 rfl ?_
    refine m_get (ci := 4) (v := .int ct_1) (C := RX4) (T := TX4) (N := 5) hx hb hC hH hts in_X4_noteChanged_X4 hown F_21 rfl 1 (by decide) (hts (.fieldLink RX4 21 "LazyState$Trace" "count" "I") (by decide +kernel)) rfl dX4_noteChanged_46 ?_
    refine lv_iconst (v := 1) hx hb dX4_noteChanged_49 (by decide) ?_
    refine lv_iadd hx hb dX4_noteChanged_50 ?_
    refine lv_topi (fun x_24 ex_24 => ?_)
    have ix_24 : x_24.toInt = ct_1.toInt + 1 := ic_add ex_24 rfl kI_1 (by omega) (by omega)
    refine m_put (ci := 4) (v := .int x_24) (C := RX4) (T := TX4) (N := 5) hx hb hC hH hts in_X4_noteChanged_X4 tyX4 tyX4_ok nmX4 hown F_21 rfl 1 (by decide) (hts (.fieldLink RX4 21 "LazyState$Trace" "count" "I") (by decide +kernel)) rfl rfl rfl (Nat.le_of_ble_eq_true rfl) dX4_noteChanged_51 (fun H locs hH => ?_)
    have hH : mH G s (va_up f_20 (k (5 + 8 * i + 1)) (some (.inr (4, [.ref (k (5 + 8 * i + 2)), .int x_24, .int cg_1, .ref (k (5 + 8 * i + 3)), .ref (k (5 + 8 * i + 4))])))) H locs := hH
    obtain ⟨f_25, ef_25⟩ : ∃ zz_ : mF, zz_ = va_up f_20 (k (5 + 8 * i + 1)) (some (.inr (4, [.ref (k (5 + 8 * i + 2)), .int x_24, .int cg_1, .ref (k (5 + 8 * i + 3)), .ref (k (5 + 8 * i + 4))]))) := ⟨_, rfl⟩
    rw [← ef_25] at hH
    have hg_26 := upk hg_22 ef_25 (neC hj (i := (5 + 8 * i + 3)) (j := (5 + 8 * i + 1)) (by omega) (by omega) (by omega))
    have hg_27 := upk hg_23 ef_25 (neC hj (i := (5 + 8 * i + 4)) (j := (5 + 8 * i + 1)) (by omega) (by omega) (by omega))
    have F_28 : f_25 (k (5 + 8 * i + 1)) = some (.inr (4, [.ref (k (5 + 8 * i + 2)), .int x_24, .int cg_1, .ref (k (5 + 8 * i + 3)), .ref (k (5 + 8 * i + 4))])) := by rw [ef_25]; exact va_up_self _ _ _
    have h3_ := upk hg_22 ef_25 (neC hj (by omega) (by omega) (by omega))
    have h4_ := upk hg_23 ef_25 (neC hj (by omega) (by omega) (by omega))
    have hI : IC G k rho n T z st f_25 := hI.setTrX hi (Or.inl rfl) ef_25 (show okTr k i _ from ⟨_, _, rfl, by omega, by omega⟩) (xTr_mk F_28 rfl h3_ h4_ (by omega))
    have hkt := hkt.up hj hi 1 (by decide) (by decide) ef_25
    have hfr := hfr.upK (j := (5 + 8 * i + 1)) (by omega) ef_25
    refine lv_aload_n hx hb dX4_noteChanged_54 rfl (lv_at hl 0 rfl) ?_
    refine lv_dup hx hb dX4_noteChanged_55 rfl ?_
    refine m_get (ci := 4) (v := .int cg_1) (C := RX4) (T := TX4) (N := 5) hx hb hC hH hts in_X4_noteChanged_X4 hown F_28 rfl 2 (by decide) (hts (.fieldLink RX4 25 "LazyState$Trace" "changedCount" "I") (by decide +kernel)) rfl dX4_noteChanged_56 ?_
    refine lv_iconst (v := 1) hx hb dX4_noteChanged_59 (by decide) ?_
    refine lv_iadd hx hb dX4_noteChanged_60 ?_
    refine lv_topi (fun x_29 ex_29 => ?_)
    refine m_put (ci := 4) (v := .int x_29) (C := RX4) (T := TX4) (N := 5) hx hb hC hH hts in_X4_noteChanged_X4 tyX4 tyX4_ok nmX4 hown F_28 rfl 2 (by decide) (hts (.fieldLink RX4 25 "LazyState$Trace" "changedCount" "I") (by decide +kernel)) rfl rfl rfl (Nat.le_of_ble_eq_true rfl) dX4_noteChanged_61 (fun H locs hH => ?_)
    have hH : mH G s (va_up f_25 (k (5 + 8 * i + 1)) (some (.inr (4, [.ref (k (5 + 8 * i + 2)), .int x_24, .int x_29, .ref (k (5 + 8 * i + 3)), .ref (k (5 + 8 * i + 4))])))) H locs := hH
    obtain ⟨f_30, ef_30⟩ : ∃ zz_ : mF, zz_ = va_up f_25 (k (5 + 8 * i + 1)) (some (.inr (4, [.ref (k (5 + 8 * i + 2)), .int x_24, .int x_29, .ref (k (5 + 8 * i + 3)), .ref (k (5 + 8 * i + 4))]))) := ⟨_, rfl⟩
    rw [← ef_30] at hH
    have hg_31 := upk hg_26 ef_30 (neC hj (i := (5 + 8 * i + 3)) (j := (5 + 8 * i + 1)) (by omega) (by omega) (by omega))
    have hg_32 := upk hg_27 ef_30 (neC hj (i := (5 + 8 * i + 4)) (j := (5 + 8 * i + 1)) (by omega) (by omega) (by omega))
    have F_33 : f_30 (k (5 + 8 * i + 1)) = some (.inr (4, [.ref (k (5 + 8 * i + 2)), .int x_24, .int x_29, .ref (k (5 + 8 * i + 3)), .ref (k (5 + 8 * i + 4))])) := by rw [ef_30]; exact va_up_self _ _ _
    have hI : IC G k rho n T z st f_30 := hI.setTr hi F_28 ef_30 rfl ⟨_, _, rfl, by omega, by omega⟩
    have hkt := hkt.up hj hi 1 (by decide) (by decide) ef_30
    have hfr := hfr.upK (j := (5 + 8 * i + 1)) (by omega) ef_30
    exact m_vret hx hb hr hlk hC hH rho ⟨rfl, hI, hfr, hkt⟩ (Nat.le_of_ble_eq_true rfl) (Nat.le_of_ble_eq_true rfl) dX4_noteChanged_64
set_option maxHeartbeats 4000000 in
set_option maxRecDepth 100000 in
theorem c_X4_isSameAs (l : Launch) (G : mG) (k : Nat → Nat) (rho : tR) (n : Nat) (T z : Nat → Nat) (st : Nat → Bool) (f : mF) (hI : IC G k rho n T z st f) (i i2 : Nat) (hi : i < 3) (hi2 : i2 < 3) : Met l yX4_isSameAs wsX4_isSameAs ({ frames := 0, cells := 0, slots := 0, locals := 0 }) (va_Pc [.ref (k (5 + 8 * i + 1)), .ref (k (5 + 8 * i2 + 1))] (mW G f)) (va_Qi (fun (r : Int32) (u : mS) => u.2 = f ∧ (r.toInt = 0 ∨ r.toInt = 1)) (fun (u : mS) t => mW G u.2 t) (mA G)) 0 0 (mA G) := by
  refine mMet [.ref (k (5 + 8 * i + 1)), .ref (k (5 + 8 * i2 + 1))] (cc := cX4_isSameAs) (maxL := 3) (ret := (some .boolean)) (by decide) rfl (Nat.le_of_ble_eq_true rfl) ?_
  intro p e s m below meth c ls hx hb hr hml hts hown hlk hnm hC hH hl
  have hl : lv_has ls 3 [(0, .ref (k (5 + 8 * i + 1))), (1, .ref (k (5 + 8 * i2 + 1)))] := hl
  have hj := hI.2.2.2.2.1
  have hn24 := hI.2.2.2.2.2.2.1
  have hT3 := hI.2.2.2.2.2.2.2.1
  have hz32 := hI.2.2.2.2.2.2.2.2
  have nIn : (nI n).toInt = (n : Int) := nI_toInt (by omega)
  have hfr : frC k rho f rho f := frC.rf
  refine lv_aload_n hx hb dX4_isSameAs_0 rfl (lv_at hl 0 rfl) ?_
  obtain ⟨ct_1, cg_1, F_1, b1_1, b2_1⟩ : okTr k i (f (k (5 + 8 * i + 1))) := hI.run (i := i) (c := 1) hi (by decide)
  refine m_get (ci := 4) (v := .int ct_1) (C := RX4) (T := TX4) (N := 5) hx hb hC hH hts in_X4_isSameAs_X4 hown F_1 rfl 1 (by decide) (hts (.fieldLink RX4 21 "LazyState$Trace" "count" "I") (by decide +kernel)) rfl dX4_isSameAs_1 ?_
  refine lv_aload_n hx hb dX4_isSameAs_4 rfl (lv_at hl 1 rfl) ?_
  obtain ⟨ct_2, cg_2, F_2, b1_2, b2_2⟩ : okTr k i2 (f (k (5 + 8 * i2 + 1))) := hI.run (i := i2) (c := 1) hi2 (by decide)
  refine m_get (ci := 4) (v := .int ct_2) (C := RX4) (T := TX4) (N := 5) hx hb hC hH hts in_X4_isSameAs_X4 hown F_2 rfl 1 (by decide) (hts (.fieldLink RX4 21 "LazyState$Trace" "count" "I") (by decide +kernel)) rfl dX4_isSameAs_5 ?_
  refine lv_icmp_eq (tgt := 13) hx hb dX4_isSameAs_8 (by decide) (fun c_3 => ?_) (fun c_3 => ?_)
  · skip
    have ic_3 : (ct_1.toInt : Int) = ct_2.toInt := ic_eq rfl rfl c_3
    refine lv_iconst (v := 0) hx hb dX4_isSameAs_13 (by decide) ?_
    refine lv_istore_n (lv' := [(2, .int 0), (0, .ref (k (5 + 8 * i + 1))), (1, .ref (k (5 + 8 * i2 + 1)))]) hx hb dX4_isSameAs_14 rfl hl (by decide) rfl (fun ls hl => ?_)
    have loop_15 : ∀ (fuel_ : Nat) (k2 : Int32) (h0_ : 0 ≤ k2.toInt) (h1_ : k2.toInt ≤ 384) (_ : ((384 : Int) - k2.toInt).toNat < fuel_) (H : Heap) (locs : List Loc) (ls : Array Slot) (_ : mH G s f H locs) (_ : lv_has ls 3 [(0, .ref (k (5 + 8 * i + 1))), (1, .ref (k (5 + 8 * i2 + 1))), (2, .int k2)]), W p l e ({ frames := 0, cells := 0, slots := 0, locals := 0 } : Room) s m ([.ref (k (5 + 8 * i + 1)), .ref (k (5 + 8 * i2 + 1))] : List Value).toArray below meth c H locs 0 0 (MQ below (va_Qi (fun (r : Int32) (u : mS) => u.2 = f ∧ (r.toInt = 0 ∨ r.toInt = 1)) (fun (u : mS) t => mW G u.2 t) (mA G)) ([.ref (k (5 + 8 * i + 1)), .ref (k (5 + 8 * i2 + 1))] : List Value).toArray s 0 0 (mA G)) (F0 m 15 ls []) := by
      intro N_15
      induction N_15 with
      | zero => intro k2 h0_ h1_ hN; omega
      | succ N_15 ih_15 =>
        intro k2 h0_ h1_ hN_15 H locs ls hH hl
        refine lv_iload_n hx hb dX4_isSameAs_15 rfl (lv_at hl 2 rfl) ?_
        refine lv_aload_n hx hb dX4_isSameAs_16 rfl (lv_at hl 0 rfl) ?_
        refine m_get (ci := 4) (v := .int ct_1) (C := RX4) (T := TX4) (N := 5) hx hb hC hH hts in_X4_isSameAs_X4 hown F_1 rfl 1 (by decide) (hts (.fieldLink RX4 21 "LazyState$Trace" "count" "I") (by decide +kernel)) rfl dX4_isSameAs_17 ?_
        refine lv_icmp_ge (tgt := 46) hx hb dX4_isSameAs_20 (by decide) (fun c_4 => ?_) (fun c_4 => ?_)
        · skip
          have ic_4 : (ct_1.toInt : Int) ≤ k2.toInt := ic_le rfl rfl c_4
          refine lv_iconst (v := 1) hx hb dX4_isSameAs_46 (by decide) ?_
          exact m_zret (v := 1) hx hb hr (by rfl) hlk hC hH rho ⟨rfl, by have := kI_1; omega⟩ (Nat.le_of_ble_eq_true rfl) (Nat.le_of_ble_eq_true rfl) dX4_isSameAs_47
        · skip
          have ic_4 : (ct_1.toInt : Int) > k2.toInt := ic_nle rfl rfl c_4
          refine lv_aload_n hx hb dX4_isSameAs_23 rfl (lv_at hl 0 rfl) ?_
          refine m_get (ci := 4) (v := .ref (k (5 + 8 * i + 2))) (C := RX4) (T := TX4) (N := 5) hx hb hC hH hts in_X4_isSameAs_X4 hown F_1 rfl 0 (by decide) (hts (.fieldLink RX4 9 "LazyState$Trace" "entries" "[I") (by decide +kernel)) rfl dX4_isSameAs_24 ?_
          refine lv_iload_n hx hb dX4_isSameAs_27 rfl (lv_at hl 2 rfl) ?_
          obtain ⟨g_5, hg_5, hp_5⟩ : okI G 0 384 (fun _ => True) (f (k (5 + 8 * i + 2))) := hI.run (i := i) (c := 2) hi (by decide)
          refine m_iald hx hb hC hH hg_5 (vp_in_iff.mpr ⟨by omega, by omega⟩) dX4_isSameAs_28 ?_
          refine lv_topi (fun x_6 ex_6 => ?_)
          refine lv_aload_n hx hb dX4_isSameAs_29 rfl (lv_at hl 1 rfl) ?_
          refine m_get (ci := 4) (v := .ref (k (5 + 8 * i2 + 2))) (C := RX4) (T := TX4) (N := 5) hx hb hC hH hts in_X4_isSameAs_X4 hown F_2 rfl 0 (by decide) (hts (.fieldLink RX4 9 "LazyState$Trace" "entries" "[I") (by decide +kernel)) rfl dX4_isSameAs_30 ?_
          refine lv_iload_n hx hb dX4_isSameAs_33 rfl (lv_at hl 2 rfl) ?_
          obtain ⟨g_7, hg_7, hp_7⟩ : okI G 0 384 (fun _ => True) (f (k (5 + 8 * i2 + 2))) := hI.run (i := i2) (c := 2) hi2 (by decide)
          refine m_iald hx hb hC hH hg_7 (vp_in_iff.mpr ⟨by omega, by omega⟩) dX4_isSameAs_34 ?_
          refine lv_topi (fun x_8 ex_8 => ?_)
          refine lv_icmp_eq (tgt := 40) hx hb dX4_isSameAs_35 (by decide) (fun c_9 => ?_) (fun c_9 => ?_)
          · skip
            have ic_9 : (x_6.toInt : Int) = x_8.toInt := ic_eq rfl rfl c_9
            obtain ⟨x_10, ex_10⟩ : ∃ y : Int32, y = k2 + 1 := ⟨_, rfl⟩
            have ix_10 : x_10.toInt = k2.toInt + 1 := ic_add ex_10 rfl kI_1 (by omega) (by omega)
            refine lv_iinc (v := x_10) (lv' := [(2, .int x_10), (0, .ref (k (5 + 8 * i + 1))), (1, .ref (k (5 + 8 * i2 + 1)))]) hx hb dX4_isSameAs_40 hl (k := 2) rfl (by rw [ex_10]; rfl) (by decide) rfl (fun ls hl => ?_)
            refine lv_goto (tgt := 15) hx hb dX4_isSameAs_43 (by decide) ?_
            exact ih_15 x_10 (by omega) (by omega) (by omega) _ _ _ hH (lv_sub hl [1, 2, 0] rfl)
          · skip
            have ic_9 : (x_6.toInt : Int) ≠ x_8.toInt := ic_ne rfl rfl c_9
            refine lv_iconst (v := 0) hx hb dX4_isSameAs_38 (by decide) ?_
            exact m_zret (v := 0) hx hb hr (by rfl) hlk hC hH rho ⟨rfl, by have := kI_0; omega⟩ (Nat.le_of_ble_eq_true rfl) (Nat.le_of_ble_eq_true rfl) dX4_isSameAs_39
    exact loop_15 (((384 : Int) - 0).toNat + 1) 0 (by have := kI_0; omega) (by have := kI_0; omega) (by have := kI_0; omega) _ _ _ hH (lv_sub hl [1, 2, 0] rfl)
  · skip
    have ic_3 : (ct_1.toInt : Int) ≠ ct_2.toInt := ic_ne rfl rfl c_3
    refine lv_iconst (v := 0) hx hb dX4_isSameAs_11 (by decide) ?_
    exact m_zret (v := 0) hx hb hr (by rfl) hlk hC hH rho ⟨rfl, by have := kI_0; omega⟩ (Nat.le_of_ble_eq_true rfl) (Nat.le_of_ble_eq_true rfl) dX4_isSameAs_12
set_option maxHeartbeats 4000000 in
set_option maxRecDepth 100000 in
theorem c_X1_append (l : Launch) (G : mG) (k : Nat → Nat) (rho : tR) (n : Nat) (T z : Nat → Nat) (st : Nat → Bool) (f : mF) (hI : IC G k rho n T z st f) (b : Nat) (hb6 : b < 6) (a : Nat) (hact : rho a = (4, 0)) : Met l yX1_append wsX1_append ({ frames := 0, cells := 0, slots := 0, locals := 0 }) (va_Pc [.ref (k (29 + 2 * b)), .ref a] (mW G f)) (va_Qi (fun (r : Int32) (u : mS) => u.1 = rho ∧ frC k rho f rho u.2 ∧ ((z b = 32 ∧ r.toInt = -2 ∧ IC G k rho n T z st u.2) ∨ (z b < 32 ∧ r.toInt = z b ∧ IC G k rho n T (fun q => if q = b then z q + 1 else z q) st u.2))) (fun (u : mS) t => mW G u.2 t) (mA G)) 0 0 (mA G) := by
  refine mMet [.ref (k (29 + 2 * b)), .ref a] (cc := cX1_append) (maxL := 2) (ret := (some .int)) (by decide) rfl (Nat.le_of_ble_eq_true rfl) ?_
  intro p e s m below meth c ls hx hb hr hml hts hown hlk hnm hC hH hl
  have hl : lv_has ls 2 [(0, .ref (k (29 + 2 * b))), (1, .ref a)] := hl
  have hj := hI.2.2.2.2.1
  have hn24 := hI.2.2.2.2.2.2.1
  have hT3 := hI.2.2.2.2.2.2.2.1
  have hz32 := hI.2.2.2.2.2.2.2.2
  have nIn : (nI n).toInt = (n : Int) := nI_toInt (by omega)
  have hfr : frC k rho f rho f := frC.rf
  refine lv_aload_n hx hb dX1_append_0 rfl (lv_at hl 0 rfl) ?_
  have F_1 : f (k (29 + 2 * b)) = some (.inr (1, [.ref (k (29 + 2 * b + 1)), .int (nI (z b))])) := hI.beh hb6
  have zb_1 := hz32 b
  have zI_1 : (nI (z b)).toInt = (z b : Int) := nI_toInt (by omega)
  refine m_get (ci := 1) (v := .int (nI (z b))) (C := RX1) (T := TX1) (N := 2) hx hb hC hH hts in_X1_append_X1 hown F_1 rfl 1 (by decide) (hts (.fieldLink RX1 17 "LazyState$Behaviour" "size" "I") (by decide +kernel)) rfl dX1_append_1 ?_
  refine lv_bipush (v := 32) hx hb dX1_append_4 (by decide) ?_
  refine lv_icmp_lt (tgt := 12) hx hb dX1_append_6 (by decide) (fun c_2 => ?_) (fun c_2 => ?_)
  · skip
    have ic_2 : ((z b : Int) : Int) < 32 := ic_lt zI_1 kI_32 c_2
    refine lv_aload_n hx hb dX1_append_12 rfl (lv_at hl 0 rfl) ?_
    refine m_get (ci := 1) (v := .ref (k (29 + 2 * b + 1))) (C := RX1) (T := TX1) (N := 2) hx hb hC hH hts in_X1_append_X1 hown F_1 rfl 0 (by decide) (hts (.fieldLink RX1 11 "LazyState$Behaviour" "acts" "[LLazyState$Act;") (by decide +kernel)) rfl dX1_append_13 ?_
    refine lv_aload_n hx hb dX1_append_16 rfl (lv_at hl 0 rfl) ?_
    refine m_get (ci := 1) (v := .int (nI (z b))) (C := RX1) (T := TX1) (N := 2) hx hb hC hH hts in_X1_append_X1 hown F_1 rfl 1 (by decide) (hts (.fieldLink RX1 17 "LazyState$Behaviour" "size" "I") (by decide +kernel)) rfl dX1_append_17 ?_
    refine lv_aload_n hx hb dX1_append_20 rfl (lv_at hl 1 rfl) ?_
    obtain ⟨g_3, hg_3, hp_3⟩ : okQ G 5 32 (fun g => ∀ i, i < 32 → g i = none ∨ ∃ a, g i = some a ∧ rho a = (4, 0)) (f (k (29 + 2 * b + 1))) := hI.acts hb6
    obtain ⟨kd_4, aa_4, bb_4, c2_4, d2_4, e2_4, F_4, hok_4⟩ : okAc (f a) := hI.pool hact
    refine m_aast (ci := 0) hx hb hC hH 5 rfl hg_3 F_4 rfl (vp_in_iff.mpr (by rw [zI_1]; exact ⟨by omega, by omega⟩)) dX1_append_21 (fun H locs hH => ?_)
    obtain ⟨f_5, ef_5⟩ : ∃ zz_ : mF, zz_ = va_up f (k (29 + 2 * b + 1)) (some (.inl (gk G 5, 32, .inr (.inr (.inr (.inr (va_up g_3 ((nI (z b)).toNatClampNeg) (some a)))))))) := ⟨_, rfl⟩
    rw [← ef_5] at hH
    have F_6 := upk F_1 ef_5 (neC hj (i := (29 + 2 * b)) (j := (29 + 2 * b + 1)) (by omega) (by omega) (by omega))
    have F_7 := upk F_4 ef_5 (hI.nk (j := (29 + 2 * b + 1)) (by omega) (by rw [hact]; simp))
    have hI : IC G k rho n T z st f_5 := hI.set (j := (29 + 2 * b + 1)) (by omega) ef_5 (fun i_ hi_ => by omega) (by rw [okC_A]; exact ⟨_, rfl, acts_put hp_3 hact⟩)
    have hfr := hfr.upK (j := (29 + 2 * b + 1)) (by omega) ef_5
    refine lv_aload_n hx hb dX1_append_22 rfl (lv_at hl 0 rfl) ?_
    refine lv_dup hx hb dX1_append_23 rfl ?_
    refine m_get (ci := 1) (v := .int (nI (z b))) (C := RX1) (T := TX1) (N := 2) hx hb hC hH hts in_X1_append_X1 hown F_6 rfl 1 (by decide) (hts (.fieldLink RX1 17 "LazyState$Behaviour" "size" "I") (by decide +kernel)) rfl dX1_append_24 ?_
    refine lv_iconst (v := 1) hx hb dX1_append_27 (by decide) ?_
    refine lv_iadd hx hb dX1_append_28 ?_
    refine lv_topi (fun x_8 ex_8 => ?_)
    have ix_8 : x_8.toInt = (z b : Int) + 1 := ic_add ex_8 zI_1 kI_1 (by omega) (by omega)
    refine m_put (ci := 1) (v := .int x_8) (C := RX1) (T := TX1) (N := 2) hx hb hC hH hts in_X1_append_X1 tyX1 tyX1_ok nmX1 hown F_6 rfl 1 (by decide) (hts (.fieldLink RX1 17 "LazyState$Behaviour" "size" "I") (by decide +kernel)) rfl rfl rfl (Nat.le_of_ble_eq_true rfl) dX1_append_29 (fun H locs hH => ?_)
    have hH : mH G s (va_up f_5 (k (29 + 2 * b)) (some (.inr (1, [.ref (k (29 + 2 * b + 1)), .int x_8])))) H locs := hH
    obtain ⟨f_9, ef_9⟩ : ∃ zz_ : mF, zz_ = va_up f_5 (k (29 + 2 * b)) (some (.inr (1, [.ref (k (29 + 2 * b + 1)), .int x_8]))) := ⟨_, rfl⟩
    rw [← ef_9] at hH
    have F_10 := upk F_7 ef_9 (hI.nk (j := (29 + 2 * b)) (by omega) (by rw [hact]; simp))
    have F_11 : f_9 (k (29 + 2 * b)) = some (.inr (1, [.ref (k (29 + 2 * b + 1)), .int x_8])) := by rw [ef_9]; exact va_up_self _ _ _
    have hI : IC G k rho n T (fun q => if q = b then z q + 1 else z q) st f_9 := hI.setZ hb6 ef_9 (z2 := fun q => if q = b then z q + 1 else z q) (by simp only [if_true]; exact (ic_inj (by omega) (by omega)).symm) (fun q hq => if_neg hq) (by simp only [if_true]; omega)
    have hfr := hfr.upK (j := (29 + 2 * b)) (by omega) ef_9
    refine lv_aload_n hx hb dX1_append_32 rfl (lv_at hl 0 rfl) ?_
    refine m_get (ci := 1) (v := .int x_8) (C := RX1) (T := TX1) (N := 2) hx hb hC hH hts in_X1_append_X1 hown F_11 rfl 1 (by decide) (hts (.fieldLink RX1 17 "LazyState$Behaviour" "size" "I") (by decide +kernel)) rfl dX1_append_33 ?_
    refine lv_iconst (v := 1) hx hb dX1_append_36 (by decide) ?_
    refine lv_isub hx hb dX1_append_37 ?_
    refine lv_topi (fun x_12 ex_12 => ?_)
    have ix_12 : x_12.toInt = x_8.toInt - 1 := ic_sub ex_12 rfl kI_1 (by omega) (by omega)
    exact m_iret (v := x_12) hx hb hr hlk hC hH rho ⟨rfl, hfr, Or.inr ⟨by omega, by omega, hI⟩⟩ (Nat.le_of_ble_eq_true rfl) (Nat.le_of_ble_eq_true rfl) dX1_append_38
  · skip
    have ic_2 : ((z b : Int) : Int) ≥ 32 := ic_nlt zI_1 kI_32 c_2
    refine lv_bipush (v := (-2)) hx hb dX1_append_9 (by decide) ?_
    exact m_iret (v := (-2)) hx hb hr hlk hC hH rho ⟨rfl, hfr, Or.inl ⟨by omega, kI_m2, hI⟩⟩ (Nat.le_of_ble_eq_true rfl) (Nat.le_of_ble_eq_true rfl) dX1_append_11
set_option maxHeartbeats 4000000 in
set_option maxRecDepth 100000 in
theorem c_X1_empty (l : Launch) (G : mG) (k : Nat → Nat) (rho : tR) (n : Nat) (T z : Nat → Nat) (st : Nat → Bool) (f : mF) (hI : IC G k rho n T z st f) (b : Nat) (hb6 : b < 6) : Met l yX1_empty wsX1_empty ({ frames := 0, cells := 0, slots := 0, locals := 0 }) (va_Pc [.ref (k (29 + 2 * b))] (mW G f)) (va_Qi (fun (r : Int32) (u : mS) => u.1 = rho ∧ frC k rho f rho u.2 ∧ r.toInt = z b ∧ IC G k rho n T (fun q => if q = b then 0 else z q) st u.2) (fun (u : mS) t => mW G u.2 t) (mA G)) 0 0 (mA G) := by
  refine mMet [.ref (k (29 + 2 * b))] (cc := cX1_empty) (maxL := 2) (ret := (some .int)) (by decide) rfl (Nat.le_of_ble_eq_true rfl) ?_
  intro p e s m below meth c ls hx hb hr hml hts hown hlk hnm hC hH hl
  have hl : lv_has ls 2 [(0, .ref (k (29 + 2 * b)))] := hl
  have hj := hI.2.2.2.2.1
  have hn24 := hI.2.2.2.2.2.2.1
  have hT3 := hI.2.2.2.2.2.2.2.1
  have hz32 := hI.2.2.2.2.2.2.2.2
  have nIn : (nI n).toInt = (n : Int) := nI_toInt (by omega)
  have hfr : frC k rho f rho f := frC.rf
  refine lv_aload_n hx hb dX1_empty_0 rfl (lv_at hl 0 rfl) ?_
  have F_1 : f (k (29 + 2 * b)) = some (.inr (1, [.ref (k (29 + 2 * b + 1)), .int (nI (z b))])) := hI.beh hb6
  have zb_1 := hz32 b
  have zI_1 : (nI (z b)).toInt = (z b : Int) := nI_toInt (by omega)
  refine m_get (ci := 1) (v := .int (nI (z b))) (C := RX1) (T := TX1) (N := 2) hx hb hC hH hts in_X1_empty_X1 hown F_1 rfl 1 (by decide) (hts (.fieldLink RX1 17 "LazyState$Behaviour" "size" "I") (by decide +kernel)) rfl dX1_empty_1 ?_
  refine lv_istore_n (lv' := [(1, .int (nI (z b))), (0, .ref (k (29 + 2 * b)))]) hx hb dX1_empty_4 rfl hl (by decide) rfl (fun ls hl => ?_)
  refine lv_aload_n hx hb dX1_empty_5 rfl (lv_at hl 1 rfl) ?_
  refine lv_iconst (v := 0) hx hb dX1_empty_6 (by decide) ?_
  refine m_put (ci := 1) (v := .int 0) (C := RX1) (T := TX1) (N := 2) hx hb hC hH hts in_X1_empty_X1 tyX1 tyX1_ok nmX1 hown F_1 rfl 1 (by decide) (hts (.fieldLink RX1 17 "LazyState$Behaviour" "size" "I") (by decide +kernel)) rfl rfl rfl (Nat.le_of_ble_eq_true rfl) dX1_empty_7 (fun H locs hH => ?_)
  have hH : mH G s (va_up f (k (29 + 2 * b)) (some (.inr (1, [.ref (k (29 + 2 * b + 1)), .int 0])))) H locs := hH
  obtain ⟨f_2, ef_2⟩ : ∃ zz_ : mF, zz_ = va_up f (k (29 + 2 * b)) (some (.inr (1, [.ref (k (29 + 2 * b + 1)), .int 0]))) := ⟨_, rfl⟩
  rw [← ef_2] at hH
  have F_3 : f_2 (k (29 + 2 * b)) = some (.inr (1, [.ref (k (29 + 2 * b + 1)), .int 0])) := by rw [ef_2]; exact va_up_self _ _ _
  have hI : IC G k rho n T (fun q => if q = b then 0 else z q) st f_2 := hI.setZ hb6 ef_2 (z2 := fun q => if q = b then 0 else z q) (by simp only [if_true]; rfl) (fun q hq => if_neg hq) (by simp only [if_true]; omega)
  have hfr := hfr.upK (j := (29 + 2 * b)) (by omega) ef_2
  refine lv_iload_n hx hb dX1_empty_10 rfl (lv_at hl 0 rfl) ?_
  exact m_iret (v := nI (z b)) hx hb hr hlk hC hH rho ⟨rfl, hfr, by have := zI_1; omega, hI⟩ (Nat.le_of_ble_eq_true rfl) (Nat.le_of_ble_eq_true rfl) dX1_empty_11
set_option maxHeartbeats 4000000 in
set_option maxRecDepth 100000 in
theorem c_X1_actAt (l : Launch) (G : mG) (k : Nat → Nat) (rho : tR) (n : Nat) (T z : Nat → Nat) (st : Nat → Bool) (f : mF) (hI : IC G k rho n T z st f) (b : Nat) (hb6 : b < 6) (kx : Int32) : Met l yX1_actAt wsX1_actAt ({ frames := 0, cells := 0, slots := 0, locals := 0 }) (va_Pc [.ref (k (29 + 2 * b)), .int kx] (mW G f)) (va_Qq (fun (r : Option Nat) (u : mS) => u.2 = f ∧ (r = none ∨ ∃ a, r = some a ∧ rho a = (4, 0))) (fun (u : mS) t => mW G u.2 t) (mA G)) 0 0 (mA G) := by
  refine mMet [.ref (k (29 + 2 * b)), .int kx] (cc := cX1_actAt) (maxL := 2) (ret := (some (.object "LazyState$Act"))) (by decide) rfl (Nat.le_of_ble_eq_true rfl) ?_
  intro p e s m below meth c ls hx hb hr hml hts hown hlk hnm hC hH hl
  have hl : lv_has ls 2 [(0, .ref (k (29 + 2 * b))), (1, .int kx)] := hl
  have hj := hI.2.2.2.2.1
  have hn24 := hI.2.2.2.2.2.2.1
  have hT3 := hI.2.2.2.2.2.2.2.1
  have hz32 := hI.2.2.2.2.2.2.2.2
  have nIn : (nI n).toInt = (n : Int) := nI_toInt (by omega)
  have hfr : frC k rho f rho f := frC.rf
  refine lv_iload_n hx hb dX1_actAt_0 rfl (lv_at hl 1 rfl) ?_
  refine lv_if_lt (tgt := 21) hx hb dX1_actAt_1 (by decide) (fun c_1 => ?_) (fun c_1 => ?_)
  · skip
    have ic_1 : (kx.toInt : Int) < 0 := ic_lt rfl kI_0 c_1
    refine lv_null hx hb dX1_actAt_21 ?_
    exact m_aret (v := none) hx hb hr hlk hC hH rho ⟨rfl, Or.inl rfl⟩ (Nat.le_of_ble_eq_true rfl) (Nat.le_of_ble_eq_true rfl) dX1_actAt_22
  · skip
    have ic_1 : (kx.toInt : Int) ≥ 0 := ic_nlt rfl kI_0 c_1
    refine lv_iload_n hx hb dX1_actAt_4 rfl (lv_at hl 1 rfl) ?_
    refine lv_aload_n hx hb dX1_actAt_5 rfl (lv_at hl 0 rfl) ?_
    have F_2 : f (k (29 + 2 * b)) = some (.inr (1, [.ref (k (29 + 2 * b + 1)), .int (nI (z b))])) := hI.beh hb6
    have zb_2 := hz32 b
    have zI_2 : (nI (z b)).toInt = (z b : Int) := nI_toInt (by omega)
    refine m_get (ci := 1) (v := .int (nI (z b))) (C := RX1) (T := TX1) (N := 2) hx hb hC hH hts in_X1_actAt_X1 hown F_2 rfl 1 (by decide) (hts (.fieldLink RX1 17 "LazyState$Behaviour" "size" "I") (by decide +kernel)) rfl dX1_actAt_6 ?_
    refine lv_icmp_ge (tgt := 21) hx hb dX1_actAt_9 (by decide) (fun c_3 => ?_) (fun c_3 => ?_)
    · skip
      have ic_3 : ((z b : Int) : Int) ≤ kx.toInt := ic_le zI_2 rfl c_3
      refine lv_null hx hb dX1_actAt_21 ?_
      exact m_aret (v := none) hx hb hr hlk hC hH rho ⟨rfl, Or.inl rfl⟩ (Nat.le_of_ble_eq_true rfl) (Nat.le_of_ble_eq_true rfl) dX1_actAt_22
    · skip
      have ic_3 : ((z b : Int) : Int) > kx.toInt := ic_nle zI_2 rfl c_3
      refine lv_aload_n hx hb dX1_actAt_12 rfl (lv_at hl 0 rfl) ?_
      refine m_get (ci := 1) (v := .ref (k (29 + 2 * b + 1))) (C := RX1) (T := TX1) (N := 2) hx hb hC hH hts in_X1_actAt_X1 hown F_2 rfl 0 (by decide) (hts (.fieldLink RX1 11 "LazyState$Behaviour" "acts" "[LLazyState$Act;") (by decide +kernel)) rfl dX1_actAt_13 ?_
      refine lv_iload_n hx hb dX1_actAt_16 rfl (lv_at hl 1 rfl) ?_
      obtain ⟨g_4, hg_4, hp_4⟩ : okQ G 5 32 (fun g => ∀ i, i < 32 → g i = none ∨ ∃ a, g i = some a ∧ rho a = (4, 0)) (f (k (29 + 2 * b + 1))) := hI.acts hb6
      refine m_aald hx hb hC hH 5 rfl hg_4 (vp_in_iff.mpr ⟨by omega, by omega⟩) dX1_actAt_17 ?_
      refine lv_goto (tgt := 22) hx hb dX1_actAt_18 (by decide) ?_
      exact m_aret (v := g_4 (kx.toNatClampNeg)) hx hb hr hlk hC hH rho ⟨rfl, hp_4 (kx.toNatClampNeg) (ic_cl rfl (by omega) (by omega))⟩ (Nat.le_of_ble_eq_true rfl) (Nat.le_of_ble_eq_true rfl) dX1_actAt_22
