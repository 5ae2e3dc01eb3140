def ldn (s : tS) (o : Nat) : Nat := if ldS s o = true then 0 else 1
theorem ldn_1 {s : tS} {o : Nat} (h : ldS s o = true) : ldn s o = 0 := if_pos h
theorem ldn_0 {s : tS} {o : Nat} (h : ldS s o = false) : ldn s o = 1 := if_neg (by rw [h]; simp)
theorem nld_l {s : tS} {o : Nat} (ho : o < 24) : nld (sLd s o) = nld s + ldn s o := nld_ld ho
theorem ask_nl {T : Nat → Nat} {s : tS} {hd j st : Nat} (h : haS s hd ≠ -3) (ho : hob s hd < 24) : nld (ask T s hd j st).2 = nld s + ldn s (hob s hd) := by
  unfold ask; rw [if_neg h]; exact nld_l ho
theorem ask_nl0 {T : Nat → Nat} {s : tS} {hd j st : Nat} (h : haS s hd = -3) : nld (ask T s hd j st).2 = nld s := by rw [ask_neg h]
theorem ask_nlm {n : Nat} {T : Nat → Nat} {s : tS} {hd j st : Nat} (hn : n ≤ 24) (ho : okS n T s) (hh : hd < 4) : nld s ≤ nld (ask T s hd j st).2 := by
  by_cases h : haS s hd = -3
  · rw [ask_nl0 h]; exact Nat.le_refl _
  · rw [ask_nl h (by have := (okHa_ob (ho.2.1 hd hh) h).1; unfold hob; omega)]; omega
section NL
variable {T : Nat → Nat} {s : tS}
theorem nl_pGet {x hd j : Nat} : nld (pGet T s x hd j).2 = nld (ask T s hd j 1).2 := by unfold pGet thn; split <;> rfl
theorem nl_pFol {x hd j : Nat} : nld (pFol T s x hd j).2 = nld (ask T s hd j 2).2 := by unfold pFol thn; split <;> rfl
theorem nl_pPut {hd j st : Nat} {v : Int64} : nld (pPut T s hd j st v).2 = nld (ask T s hd j st).2 := by unfold pPut thn; split <;> rfl
theorem nl_pItm {x hd j y : Nat} : nld (pItm T s x hd j y).2 = nld (ask T s hd j 3).2 := by
  unfold pItm thn
  split
  · show nld (if iRf _ _ _ = 0 then _ else (_, _) : Nat × tS).2 = _
    split <;> rfl
  · rfl
theorem nl_pLay {hd j y x : Nat} : nld (pLay T s hd j y x).2 = nld (ask T s hd j 3).2 := by
  unfold pLay thn
  split
  · show nld (if iRf _ _ _ = 0 then _ else (_, _) : Nat × tS).2 = _
    split <;> rfl
  · rfl
theorem nl_pRow {hd j : Nat} {v : Int64} : nld (pRow T s hd j v).2 = nld (ask T s hd j 3).2 := by
  unfold pRow thn
  split
  · show nld (if v.toInt < 0 then (4, _) else if 8 < v.toInt then (8, _) else (0, _) : Nat × tS).2 = _
    split
    · rfl
    · split <;> rfl
  · rfl
theorem nl_pShf1 {h1 j1 h2 j2 y : Nat} (h : (ask T s h1 j1 3).1 ≠ 0) : nld (pShf T s h1 j1 h2 j2 y).2 = nld (ask T s h1 j1 3).2 := by
  unfold pShf; rw [thn_1 h]
theorem nl_pShf2 {h1 j1 h2 j2 y : Nat} (h : (ask T s h1 j1 3).1 = 0) : nld (pShf T s h1 j1 h2 j2 y).2 = nld (ask T (rdL (ask T s h1 j1 3).2 h1 j1) h2 j2 3).2 := by
  unfold pShf; rw [thn_0 h]
  unfold thn
  split
  · show nld (if shR _ _ _ _ _ = 0 then _ else (_, _) : Nat × tS).2 = _
    split <;> rfl
  · rfl
theorem nl_lkF {t p q : Nat} : ∀ (m j : Nat) (s : tS), nld (lkF t p q m j s).2 = nld s
  | 0, _, _ => rfl
  | m + 1, j, s => by
    unfold lkF
    split
    · rfl
    · split
      · exact nl_lkF m (j + 1) _
      · rfl
end NL
