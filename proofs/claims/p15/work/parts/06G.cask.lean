theorem ask_ld {T : Nat → Nat} {s : tS} {hd j st : Nat} (h : (ask T s hd j st).1 = 0) : ldS (ask T s hd j st).2 (hob (ask T s hd j st).2 hd) = true := by
  have e := (ask_0 h).2.2.2
  rw [hob_ask, e]
  exact va_up_self _ _ _
theorem ask_nh {T : Nat → Nat} {s : tS} {hd j st : Nat} (h : (ask T s hd j st).1 = 0) : haS (ask T s hd j st).2 hd ≠ -3 := by rw [ask_ha]; exact (ask_0 h).1
theorem ask_ldm {T : Nat → Nat} {s : tS} {hd j st o : Nat} (h : ldS s o = true) : ldS (ask T s hd j st).2 o = true := by
  unfold ask
  split
  · exact h
  · show va_up (ldS s) (hob s hd) true o = true
    by_cases e : o = hob s hd
    · rw [e, va_up_self]
    · rw [va_up_ne _ _ e]; exact h
theorem sLd_s {s : tS} {o : Nat} : ldS (sLd s o) o = true := va_up_self _ _ _
theorem sLd_m {s : tS} {o p : Nat} (h : ldS s p = true) : ldS (sLd s o) p = true := by
  show va_up (ldS s) o true p = true
  by_cases e : p = o
  · rw [e, va_up_self]
  · rw [va_up_ne _ _ e]; exact h
theorem eqB_1 {t j : Nat} {c d : tB} (h : eqB t c d) (hj : j < 8) : c.1 j = d.1 j := (h j hj).1
theorem eqB_2 {t j i : Nat} {c d : tB} (h : eqB t c d) (hj : j < 8) (h3 : srt t j = 3) (hi : i < 8) : c.2 (plc j i) = d.2 (plc j i) := (h j hj).2 h3 i hi
theorem iRf_e {t j : Nat} {c d : tB} {v : Int64} (h : eqB t c d) (hj : j < 8) : iRf c j v = iRf d j v := by unfold iRf; rw [eqB_1 h hj]
theorem shR_e {t1 t2 j1 j2 : Nat} {c1 d1 c2 d2 : tB} {v : Int64} (h1 : eqB t1 c1 d1) (hj1 : j1 < 8) (h2 : eqB t2 c2 d2) (hj2 : j2 < 8) : shR c1 c2 j1 j2 v = shR d1 d2 j1 j2 v := by unfold shR; rw [eqB_1 h1 hj1, eqB_1 h2 hj2]
theorem nld_rd {s : tS} {hd j : Nat} : nld (rdL s hd j) = nld s := rfl
theorem nl_pShfm {n : Nat} {T : Nat → Nat} {s : tS} {h1 j1 h2 j2 y : Nat} (hn : n ≤ 24) (ho : okS n T s) (hh1 : h1 < 4) (hj1 : j1 < 8) (hh2 : h2 < 4) : nld (ask T s h1 j1 3).2 ≤ nld (pShf T s h1 j1 h2 j2 y).2 := by
  by_cases z : (ask T s h1 j1 3).1 = 0
  · rw [nl_pShf2 z]
    have m := ask_nlm (T := T) (s := rdL (ask T s h1 j1 3).2 h1 j1) (hd := h2) (j := j2) (st := 3) hn (rd_ok (ask_use ho hh1 z).1 hn hj1 (ask_use ho hh1 z).2.1) hh2
    rw [nld_rd] at m
    exact m
  · rw [nl_pShf1 z]; exact Nat.le_refl _
theorem nl_pShf2x {T : Nat → Nat} {s : tS} {h1 j1 h2 j2 y : Nat} (h : (ask T s h1 j1 (3 : Int32).toNatClampNeg).1 = 0) : nld (pShf T s h1 j1 h2 j2 y).2 = nld (ask T (sTc (ask T s h1 j1 (3 : Int32).toNatClampNeg).2 (2 * (8 * hob (ask T s h1 j1 (3 : Int32).toNatClampNeg).2 h1 + j1))) h2 j2 (3 : Int32).toNatClampNeg).2 := by
  rw [show (3 : Int32).toNatClampNeg = 3 from rfl] at h ⊢
  exact nl_pShf2 h
theorem nl_tc {s : tS} {c : Nat} : nld (sTc s c) = nld s := rfl
