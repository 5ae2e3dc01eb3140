theorem prf_0 {T : Nat → Nat} {t : tA} {s : tS} (e : t.1 = nI 0) : prf T t s = (0, sVa s (aA t) t.2.2.1) := by unfold prf; rw [show t.1.toNatClampNeg = 0 from by rw [e]; decide]; first | done | rfl
theorem nxt_0 {t : tA} {p : Nat} {s : tS} (e : t.1 = nI 0) : nxt t p s = p + 1 := by unfold nxt; rw [show t.1.toNatClampNeg = 0 from by rw [e]; decide]; first | done | rfl
theorem prf_1 {T : Nat → Nat} {t : tA} {s : tS} (e : t.1 = nI 1) : prf T t s = (0, sVa s (aA t) (vaS s (aB t) + vaS s (aC t))) := by unfold prf; rw [show t.1.toNatClampNeg = 1 from by rw [e]; decide]; first | done | rfl
theorem nxt_1 {t : tA} {p : Nat} {s : tS} (e : t.1 = nI 1) : nxt t p s = p + 1 := by unfold nxt; rw [show t.1.toNatClampNeg = 1 from by rw [e]; decide]; first | done | rfl
theorem prf_2 {T : Nat → Nat} {t : tA} {s : tS} (e : t.1 = nI 2) : prf T t s = (0, sVa s (aA t) (vaS s (aB t) - vaS s (aC t))) := by unfold prf; rw [show t.1.toNatClampNeg = 2 from by rw [e]; decide]; first | done | rfl
theorem nxt_2 {t : tA} {p : Nat} {s : tS} (e : t.1 = nI 2) : nxt t p s = p + 1 := by unfold nxt; rw [show t.1.toNatClampNeg = 2 from by rw [e]; decide]; first | done | rfl
theorem prf_3 {T : Nat → Nat} {t : tA} {s : tS} (e : t.1 = nI 3) : prf T t s = (if vaS s (aC t) = 0 then (5, s) else (0, sVa s (aA t) (vaS s (aB t) / vaS s (aC t)))) := by unfold prf; rw [show t.1.toNatClampNeg = 3 from by rw [e]; decide]; first | done | rfl
theorem nxt_3 {t : tA} {p : Nat} {s : tS} (e : t.1 = nI 3) : nxt t p s = p + 1 := by unfold nxt; rw [show t.1.toNatClampNeg = 3 from by rw [e]; decide]; first | done | rfl
theorem prf_4 {T : Nat → Nat} {t : tA} {s : tS} (e : t.1 = nI 4) : prf T t s = pGet T s (aA t) (aB t) (aC t) := by unfold prf; rw [show t.1.toNatClampNeg = 4 from by rw [e]; decide]; first | done | rfl
theorem nxt_4 {t : tA} {p : Nat} {s : tS} (e : t.1 = nI 4) : nxt t p s = p + 1 := by unfold nxt; rw [show t.1.toNatClampNeg = 4 from by rw [e]; decide]; first | done | rfl
theorem prf_5 {T : Nat → Nat} {t : tA} {s : tS} (e : t.1 = nI 5) : prf T t s = pPut T s (aA t) (aB t) 1 (vaS s (aC t)) := by unfold prf; rw [show t.1.toNatClampNeg = 5 from by rw [e]; decide]; first | done | rfl
theorem nxt_5 {t : tA} {p : Nat} {s : tS} (e : t.1 = nI 5) : nxt t p s = p + 1 := by unfold nxt; rw [show t.1.toNatClampNeg = 5 from by rw [e]; decide]; first | done | rfl
theorem prf_6 {T : Nat → Nat} {t : tA} {s : tS} (e : t.1 = nI 6) : prf T t s = pFol T s (aA t) (aB t) (aC t) := by unfold prf; rw [show t.1.toNatClampNeg = 6 from by rw [e]; decide]; first | done | rfl
theorem nxt_6 {t : tA} {p : Nat} {s : tS} (e : t.1 = nI 6) : nxt t p s = p + 1 := by unfold nxt; rw [show t.1.toNatClampNeg = 6 from by rw [e]; decide]; first | done | rfl
theorem prf_7 {T : Nat → Nat} {t : tA} {s : tS} (e : t.1 = nI 7) : prf T t s = pPut T s (aA t) (aB t) 2 (haS s (aC t)).toInt64 := by unfold prf; rw [show t.1.toNatClampNeg = 7 from by rw [e]; decide]; first | done | rfl
theorem nxt_7 {t : tA} {p : Nat} {s : tS} (e : t.1 = nI 7) : nxt t p s = p + 1 := by unfold nxt; rw [show t.1.toNatClampNeg = 7 from by rw [e]; decide]; first | done | rfl
theorem prf_8 {T : Nat → Nat} {t : tA} {s : tS} (e : t.1 = nI 8) : prf T t s = pItm T s (aA t) (aB t) (aC t) (aD t) := by unfold prf; rw [show t.1.toNatClampNeg = 8 from by rw [e]; decide]; first | done | rfl
theorem nxt_8 {t : tA} {p : Nat} {s : tS} (e : t.1 = nI 8) : nxt t p s = p + 1 := by unfold nxt; rw [show t.1.toNatClampNeg = 8 from by rw [e]; decide]; first | done | rfl
theorem prf_9 {T : Nat → Nat} {t : tA} {s : tS} (e : t.1 = nI 9) : prf T t s = pLay T s (aA t) (aB t) (aC t) (aD t) := by unfold prf; rw [show t.1.toNatClampNeg = 9 from by rw [e]; decide]; first | done | rfl
theorem nxt_9 {t : tA} {p : Nat} {s : tS} (e : t.1 = nI 9) : nxt t p s = p + 1 := by unfold nxt; rw [show t.1.toNatClampNeg = 9 from by rw [e]; decide]; first | done | rfl
theorem prf_10 {T : Nat → Nat} {t : tA} {s : tS} (e : t.1 = nI 10) : prf T t s = pRow T s (aA t) (aB t) (vaS s (aC t)) := by unfold prf; rw [show t.1.toNatClampNeg = 10 from by rw [e]; decide]; first | done | rfl
theorem nxt_10 {t : tA} {p : Nat} {s : tS} (e : t.1 = nI 10) : nxt t p s = p + 1 := by unfold nxt; rw [show t.1.toNatClampNeg = 10 from by rw [e]; decide]; first | done | rfl
theorem prf_11 {T : Nat → Nat} {t : tA} {s : tS} (e : t.1 = nI 11) : prf T t s = pShf T s (aA t) (aB t) (aC t) (aD t) (aE t) := by unfold prf; rw [show t.1.toNatClampNeg = 11 from by rw [e]; decide]; first | done | rfl
theorem nxt_11 {t : tA} {p : Nat} {s : tS} (e : t.1 = nI 11) : nxt t p s = p + 1 := by unfold nxt; rw [show t.1.toNatClampNeg = 11 from by rw [e]; decide]; first | done | rfl
theorem prf_12 {T : Nat → Nat} {t : tA} {s : tS} (e : t.1 = nI 12) : prf T t s = (0, sVa s (aA t) (if haS s (aB t) = haS s (aC t) then 1 else 0)) := by unfold prf; rw [show t.1.toNatClampNeg = 12 from by rw [e]; decide]; first | done | rfl
theorem nxt_12 {t : tA} {p : Nat} {s : tS} (e : t.1 = nI 12) : nxt t p s = p + 1 := by unfold nxt; rw [show t.1.toNatClampNeg = 12 from by rw [e]; decide]; first | done | rfl
theorem prf_13 {T : Nat → Nat} {t : tA} {s : tS} (e : t.1 = nI 13) : prf T t s = (0, sVa (lik T s (haS s (aB t)) (haS s (aC t))).2 (aA t) (if (lik T s (haS s (aB t)) (haS s (aC t))).1 = true then 1 else 0)) := by unfold prf; rw [show t.1.toNatClampNeg = 13 from by rw [e]; decide]; first | done | rfl
theorem nxt_13 {t : tA} {p : Nat} {s : tS} (e : t.1 = nI 13) : nxt t p s = p + 1 := by unfold nxt; rw [show t.1.toNatClampNeg = 13 from by rw [e]; decide]; first | done | rfl
theorem prf_14 {T : Nat → Nat} {t : tA} {s : tS} (e : t.1 = nI 14) : prf T t s = (0, s) := by unfold prf; rw [show t.1.toNatClampNeg = 14 from by rw [e]; decide]; first | done | rfl
theorem nxt_14 {t : tA} {p : Nat} {s : tS} (e : t.1 = nI 14) : nxt t p s = aB t := by unfold nxt; rw [show t.1.toNatClampNeg = 14 from by rw [e]; decide]; first | done | rfl
theorem prf_15 {T : Nat → Nat} {t : tA} {s : tS} (e : t.1 = nI 15) : prf T t s = (0, s) := by unfold prf; rw [show t.1.toNatClampNeg = 15 from by rw [e]; decide]; first | done | rfl
theorem nxt_15 {t : tA} {p : Nat} {s : tS} (e : t.1 = nI 15) : nxt t p s = (if 0 < (vaS s (aA t)).toInt then aB t else p + 1) := by unfold nxt; rw [show t.1.toNatClampNeg = 15 from by rw [e]; decide]; first | done | rfl
theorem prf_16 {T : Nat → Nat} {t : tA} {s : tS} (e : t.1 = nI 16) : prf T t s = (0, sGf s (vaS s (aA t))) := by unfold prf; rw [show t.1.toNatClampNeg = 16 from by rw [e]; decide]; first | done | rfl
theorem nxt_16 {t : tA} {p : Nat} {s : tS} (e : t.1 = nI 16) : nxt t p s = 32 := by unfold nxt; rw [show t.1.toNatClampNeg = 16 from by rw [e]; decide]; first | done | rfl
theorem prf_17 {T : Nat → Nat} {t : tA} {s : tS} (e : t.1 = nI 17) : prf T t s = (6, s) := by unfold prf; rw [show t.1.toNatClampNeg = 17 from by rw [e]; decide]; first | done | rfl
theorem nxt_17 {t : tA} {p : Nat} {s : tS} (e : t.1 = nI 17) : nxt t p s = p + 1 := by unfold nxt; rw [show t.1.toNatClampNeg = 17 from by rw [e]; decide]; first | done | rfl
theorem ask_use {n hd j st : Nat} {T : Nat → Nat} {s : tS} (h : okS n T s) (hh : hd < 4) (h0 : (ask T s hd j st).1 = 0) : okS n T (ask T s hd j st).2 ∧ hob (ask T s hd j st).2 hd < n ∧ srt (T (hob (ask T s hd j st).2 hd)) j = st ∧ srt (T (hob (ask T s hd j st).2 hd)) j ≠ 0 ∧ okBd n (T (hob (ask T s hd j st).2 hd)) (bdS (ask T s hd j st).2 (hob (ask T s hd j st).2 hd)) := by
  have h1 := ask_ok (j := j) (st := st) h hh
  have h2 := ask_n h hh h0
  have h3 := ask_0 h0
  rw [hob_ask]
  exact ⟨h1, h2, h3.2.1, h3.2.2.1, h1.1 _ h2⟩
theorem aB_nat {t : tA} {m : Nat} (h : 0 ≤ t.2.2.1.toInt ∧ t.2.2.1.toInt ≤ (m : Int)) : aB t < m + 1 := by show t.2.2.1.toInt.toNat < m + 1; omega
theorem a_nat {x : Int32} {m : Nat} (h : 0 ≤ x.toInt ∧ x.toInt ≤ (m : Int)) : x.toNatClampNeg < m + 1 := by show x.toInt.toNat < m + 1; omega
theorem iRf_0 {b : tB} {j : Nat} {v : Int64} (h : iRf b j v = 0) : 0 ≤ v.toInt ∧ v.toInt < (b.1 j).toInt := by
  unfold iRf at h
  split at h
  · cases h
  · split at h
    · assumption
    · cases h
theorem shR_0 {b1 b2 : tB} {j1 j2 : Nat} {m : Int64} (h : shR b1 b2 j1 j2 m = 0) : 0 ≤ m.toInt ∧ m.toInt ≤ (b1.1 j1).toInt ∧ m.toInt ≤ (b2.1 j2).toInt := by
  unfold shR at h
  split at h
  · cases h
  · split at h
    · cases h
    · rename_i q; omega
section PK
variable {n : Nat} {T : Nat → Nat} {s : tS}
theorem pGet_ok {x hd j : Nat} (hn : n ≤ 24) (h : okS n T s) (hh : hd < 4) (hj : j < 8) : okS n T (pGet T s x hd j).2 :=
  thn_ok (ask_ok h hh) (fun q => okS_va (rd_ok (ask_use h hh q).1 hn hj (ask_use h hh q).2.1))
theorem pFol_ok {x hd j : Nat} (hn : n ≤ 24) (h : okS n T s) (hh : hd < 4) (hj : j < 8) : okS n T (pFol T s x hd j).2 :=
  thn_ok (ask_ok h hh) (fun q => okS_ha (rd_ok (ask_use h hh q).1 hn hj (ask_use h hh q).2.1) (by
    have hb := ((ask_use h hh q).2.2.2.2 j hj).2.1 (ask_use h hh q).2.2.1
    have e := ic_l2i (y := ((bdS (ask T s hd j 2).2 (hob (ask T s hd j 2).2 hd)).1 j).toInt32) rfl rfl (by omega) (by omega)
    unfold okHa
    omega))
theorem pPut_ok {hd j st : Nat} {v : Int64} (hn : n ≤ 24) (h : okS n T s) (hh : hd < 4) (hj : j < 8) (hs : st ≠ 3) (hv : st = 2 → v.toInt = -3 ∨ (0 ≤ v.toInt ∧ v.toInt < n)) : okS n T (pPut T s hd j st v).2 :=
  thn_ok (ask_ok h hh) (fun q => okS_bd (ch_ok (ask_use h hh q).1 hn hj (ask_use h hh q).2.1) (okBd_C (ask_use h hh q).2.2.2.2 (ask_use h hh q).2.2.2.1 (by rw [(ask_use h hh q).2.2.1]; exact hs) (by rw [(ask_use h hh q).2.2.1]; exact hv)))
theorem pItm_ok {x hd j y : Nat} (hn : n ≤ 24) (h : okS n T s) (hh : hd < 4) (hj : j < 8) : okS n T (pItm T s x hd j y).2 :=
  thn_ok (ask_ok h hh) (fun q => thn_ok (rd_ok (ask_use h hh q).1 hn hj (ask_use h hh q).2.1) (fun _ => okS_va (rd_ok (ask_use h hh q).1 hn hj (ask_use h hh q).2.1)))
theorem pLay_ok {hd j y x : Nat} (hn : n ≤ 24) (hT : ∀ o, T o < 3) (h : okS n T s) (hh : hd < 4) (hj : j < 8) : okS n T (pLay T s hd j y x).2 := by
  refine thn_ok (ask_ok h hh) (fun q => ?_)
  obtain ⟨a1, a2, a3, a4, a5⟩ := ask_use h hh q
  generalize (ask T s hd j 3).2 = s1 at a1 a2 a3 a4 a5
  refine thn_ok (rd_ok a1 hn hj a2) (fun q2 => ?_)
  have q2 : iRf (bdS s1 (hob s1 hd)) j (vaS s1 y) = 0 := q2
  have hb := iRf_0 q2
  have h8 := ((a5 j hj).2.2 a3).1
  exact okS_bd (s := chL (rdL s1 hd j) hd j) (o := hob s1 hd) (ch_ok (rd_ok a1 hn hj a2) hn hj a2) (okBd_M (i := (vaS s1 y).toInt.toNat) (b := bdS s1 (hob s1 hd)) (hT _) hj a5 a3 (by omega) (by omega))
theorem pRow_ok {hd j : Nat} {v : Int64} (hn : n ≤ 24) (hT : ∀ o, T o < 3) (h : okS n T s) (hh : hd < 4) (hj : j < 8) : okS n T (pRow T s hd j v).2 := by
  refine thn_ok (ask_ok h hh) (fun q => ?_)
  obtain ⟨a1, a2, a3, a4, a5⟩ := ask_use h hh q
  generalize (ask T s hd j 3).2 = s1 at a1 a2 a3 a4 a5
  show okS n T (if v.toInt < 0 then (4, s1) else if 8 < v.toInt then (8, s1) else (0, sBd (chL s1 hd j) (hob s1 hd) (renB (bdS s1 (hob s1 hd)) j v))).2
  split
  · exact a1
  · split
    · exact a1
    · exact okS_bd (ch_ok a1 hn hj a2) (okBd_ren (hT _) hj a5 a3 (by omega))
theorem pShf_ok {h1 j1 h2 j2 y : Nat} (hn : n ≤ 24) (hT : ∀ o, T o < 3) (h : okS n T s) (hh1 : h1 < 4) (hj1 : j1 < 8) (hh2 : h2 < 4) (hj2 : j2 < 8) : okS n T (pShf T s h1 j1 h2 j2 y).2 := by
  refine thn_ok (ask_ok h hh1) (fun q => ?_)
  obtain ⟨a1, a2, a3, a4, a5⟩ := ask_use h hh1 q
  generalize (ask T s h1 j1 3).2 = s1 at a1 a2 a3 a4 a5
  have b1 : okS n T (rdL s1 h1 j1) := rd_ok a1 hn hj1 a2
  refine thn_ok (ask_ok b1 hh2) (fun q2 => ?_)
  obtain ⟨c1, c2, c3, c4, c5⟩ := ask_use b1 hh2 q2
  generalize (ask T (rdL s1 h1 j1) h2 j2 3).2 = s2 at c1 c2 c3 c4 c5
  refine thn_ok (rd_ok c1 hn hj2 c2) (fun q3 => ?_)
  have q3 : shR (bdS s2 (hob s2 h1)) (bdS s2 (hob s2 h2)) j1 j2 (vaS s2 y) = 0 := q3
  have hb := shR_0 q3
  exact okS_bd (s := chL (rdL s2 h2 j2) h2 j2) (o := hob s2 h2) (ch_ok (rd_ok c1 hn hj2 c2) hn hj2 c2) (okBd_cpy (t1 := 0) (hT _) hj2 c5 c3 (by show (((vaS s2 y).toInt.toNat : Nat) : Int) ≤ ((bdS s2 (hob s2 h2)).1 j2).toInt; omega))
end PK
theorem prf_ok {n : Nat} {T : Nat → Nat} {t : tA} {s : tS} (hn : n ≤ 24) (hT : ∀ o, T o < 3) (h : okS n T s) (ht : okA t) : okS n T (prf T t s).2 := by
  obtain ⟨κ, hκ, e1, f0, f1, f2, f3, f4⟩ := ht
  have hc : κ = 0 ∨ κ = 1 ∨ κ = 2 ∨ κ = 3 ∨ κ = 4 ∨ κ = 5 ∨ κ = 6 ∨ κ = 7 ∨ κ = 8 ∨ κ = 9 ∨ κ = 10 ∨ κ = 11 ∨ κ = 12 ∨ κ = 13 ∨ κ = 14 ∨ κ = 15 ∨ κ = 16 ∨ κ = 17 := by omega
  rcases hc with rfl | rfl | rfl | rfl | rfl | rfl | rfl | rfl | rfl | rfl | rfl | rfl | rfl | rfl | rfl | rfl | rfl | rfl
  · rw [prf_0 e1]
    exact okS_va h
  · rw [prf_1 e1]
    exact okS_va h
  · rw [prf_2 e1]
    exact okS_va h
  · rw [prf_3 e1]
    split <;> first | exact h | exact okS_va h
  · rw [prf_4 e1]
    have g0 : aA t < 4 := a_nat (fit_get (m := 3) rfl (by decide) kI_3 f0)
    have g1 : aB t < 4 := aB_nat (fit_get (m := 3) rfl (by decide) kI_3 f1)
    have g2 : aC t < 8 := a_nat (fit_get (m := 7) rfl (by decide) kI_7 f2)
    exact pGet_ok hn h g1 g2
  · rw [prf_5 e1]
    have g0 : aA t < 4 := a_nat (fit_get (m := 3) rfl (by decide) kI_3 f0)
    have g1 : aB t < 8 := aB_nat (fit_get (m := 7) rfl (by decide) kI_7 f1)
    have g2 : aC t < 4 := a_nat (fit_get (m := 3) rfl (by decide) kI_3 f2)
    exact pPut_ok hn h g0 g1 (by decide) (fun q => by cases q)
  · rw [prf_6 e1]
    have g0 : aA t < 4 := a_nat (fit_get (m := 3) rfl (by decide) kI_3 f0)
    have g1 : aB t < 4 := aB_nat (fit_get (m := 3) rfl (by decide) kI_3 f1)
    have g2 : aC t < 8 := a_nat (fit_get (m := 7) rfl (by decide) kI_7 f2)
    exact pFol_ok hn h g1 g2
  · rw [prf_7 e1]
    have g0 : aA t < 4 := a_nat (fit_get (m := 3) rfl (by decide) kI_3 f0)
    have g1 : aB t < 8 := aB_nat (fit_get (m := 7) rfl (by decide) kI_7 f1)
    have g2 : aC t < 4 := a_nat (fit_get (m := 3) rfl (by decide) kI_3 f2)
    exact pPut_ok hn h g0 g1 (by decide) (fun _ => by rw [Int32.toInt_toInt64]; exact h.2.1 _ g2)
  · rw [prf_8 e1]
    have g0 : aA t < 4 := a_nat (fit_get (m := 3) rfl (by decide) kI_3 f0)
    have g1 : aB t < 4 := aB_nat (fit_get (m := 3) rfl (by decide) kI_3 f1)
    have g2 : aC t < 8 := a_nat (fit_get (m := 7) rfl (by decide) kI_7 f2)
    have g3 : aD t < 4 := a_nat (fit_get (m := 3) rfl (by decide) kI_3 f3)
    exact pItm_ok hn h g1 g2
  · rw [prf_9 e1]
    have g0 : aA t < 4 := a_nat (fit_get (m := 3) rfl (by decide) kI_3 f0)
    have g1 : aB t < 8 := aB_nat (fit_get (m := 7) rfl (by decide) kI_7 f1)
    have g2 : aC t < 4 := a_nat (fit_get (m := 3) rfl (by decide) kI_3 f2)
    have g3 : aD t < 4 := a_nat (fit_get (m := 3) rfl (by decide) kI_3 f3)
    exact pLay_ok hn hT h g0 g1
  · rw [prf_10 e1]
    have g0 : aA t < 4 := a_nat (fit_get (m := 3) rfl (by decide) kI_3 f0)
    have g1 : aB t < 8 := aB_nat (fit_get (m := 7) rfl (by decide) kI_7 f1)
    have g2 : aC t < 4 := a_nat (fit_get (m := 3) rfl (by decide) kI_3 f2)
    exact pRow_ok hn hT h g0 g1
  · rw [prf_11 e1]
    have g0 : aA t < 4 := a_nat (fit_get (m := 3) rfl (by decide) kI_3 f0)
    have g1 : aB t < 8 := aB_nat (fit_get (m := 7) rfl (by decide) kI_7 f1)
    have g2 : aC t < 4 := a_nat (fit_get (m := 3) rfl (by decide) kI_3 f2)
    have g3 : aD t < 8 := a_nat (fit_get (m := 7) rfl (by decide) kI_7 f3)
    have g4 : aE t < 4 := a_nat (fit_get (m := 3) rfl (by decide) kI_3 f4)
    exact pShf_ok hn hT h g0 g1 g2 g3
  · rw [prf_12 e1]
    exact okS_va h
  · rw [prf_13 e1]
    have g0 : aA t < 4 := a_nat (fit_get (m := 3) rfl (by decide) kI_3 f0)
    have g1 : aB t < 4 := aB_nat (fit_get (m := 3) rfl (by decide) kI_3 f1)
    have g2 : aC t < 4 := a_nat (fit_get (m := 3) rfl (by decide) kI_3 f2)
    exact okS_va (lik_ok hn h (h.2.1 _ g1) (h.2.1 _ g2))
  · rw [prf_14 e1]
    exact h
  · rw [prf_15 e1]
    exact h
  · rw [prf_16 e1]
    exact okS_gf h
  · rw [prf_17 e1]
    exact h
theorem nxt_ok {t : tA} {p : Nat} {s : tS} (hp : p < 32) (ht : okA t) : nxt t p s ≤ 32 := by
  obtain ⟨κ, hκ, e1, f0, f1, f2, f3, f4⟩ := ht
  have hc : κ = 14 ∨ κ = 15 ∨ κ = 16 ∨ (κ ≠ 14 ∧ κ ≠ 15 ∧ κ ≠ 16) := by omega
  rcases hc with rfl | rfl | rfl | hc
  · rw [nxt_14 e1]; have := aB_nat (m := 32) (fit_get (m := 32) rfl (by decide) kI_32 f1); omega
  · rw [nxt_15 e1]; have := aB_nat (m := 32) (fit_get (m := 32) rfl (by decide) kI_32 f1); split <;> omega
  · rw [nxt_16 e1]; omega
  · unfold nxt
    have e2 : t.1.toNatClampNeg = κ := by rw [e1]; show (nI κ).toInt.toNat = κ; rw [nI_toInt (by omega)]; omega
    rw [e2]
    split <;> first | omega | exact absurd rfl hc.1 | exact absurd rfl hc.2.1 | exact absurd rfl hc.2.2
theorem rnS_ok {n z : Nat} {T : Nat → Nat} {A : Nat → tA} (hn : n ≤ 24) (hT : ∀ o, T o < 3) (hA : ∀ p, p < z → okA (A p)) : ∀ (m p c : Nat) (s : tS), okS n T s → okS n T (rnS T A z m p c s).2.2.2
  | 0, p, c, s, h => by unfold rnS; split <;> exact h
  | m + 1, p, c, s, h => by
    unfold rnS
    split
    · rename_i hp
      split
      · exact rnS_ok hn hT hA m _ _ _ (prf_ok hn hT h (hA p hp))
      · exact prf_ok hn hT h (hA p hp)
    · exact h
