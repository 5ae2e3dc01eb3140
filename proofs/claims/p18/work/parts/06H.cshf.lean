theorem pShf_1 {T : Nat → Nat} {s : tS} {h1 j1 h2 j2 y : Nat} (h : (ask T s h1 j1 (3 : Int32).toNatClampNeg).1 ≠ 0) : pShf T s h1 j1 h2 j2 y = ask T s h1 j1 (3 : Int32).toNatClampNeg := thn_1 h
theorem pShf_2 {T : Nat → Nat} {s s1 : tS} {h1 j1 h2 j2 y o1 : Nat} (h : (ask T s h1 j1 (3 : Int32).toNatClampNeg).1 = 0) (e1 : (ask T s h1 j1 (3 : Int32).toNatClampNeg).2 = s1) (eo : hob s1 h1 = o1) (g : (ask T (sTc s1 (2 * (8 * o1 + j1))) h2 j2 (3 : Int32).toNatClampNeg).1 ≠ 0) : pShf T s h1 j1 h2 j2 y = ask T (sTc s1 (2 * (8 * o1 + j1))) h2 j2 (3 : Int32).toNatClampNeg := by
  subst e1 eo
  exact (thn_0 (r := ask T s h1 j1 3) h).trans (thn_1 (r := ask T (rdL (ask T s h1 j1 3).2 h1 j1) h2 j2 3) g)
theorem pShf_3 {T : Nat → Nat} {s s1 s2 : tS} {h1 j1 h2 j2 y o1 o2 r : Nat} (h : (ask T s h1 j1 (3 : Int32).toNatClampNeg).1 = 0) (e1 : (ask T s h1 j1 (3 : Int32).toNatClampNeg).2 = s1) (eo : hob s1 h1 = o1) (g : (ask T (sTc s1 (2 * (8 * o1 + j1))) h2 j2 (3 : Int32).toNatClampNeg).1 = 0) (e2 : (ask T (sTc s1 (2 * (8 * o1 + j1))) h2 j2 (3 : Int32).toNatClampNeg).2 = s2) (eo2 : hob s2 h2 = o2) (sr : shR (bdS s2 o1) (bdS s2 o2) j1 j2 (vaS s2 y) = r) (hr : r ≠ 0) : pShf T s h1 j1 h2 j2 y = (r, sTc s2 (2 * (8 * o2 + j2))) := by
  have eh : hob s2 h1 = o1 := by rw [← e2, hob_ask]; exact eo
  subst e1 eo sr
  refine (thn_0 (r := ask T s h1 j1 3) h).trans ((thn_0 (r := ask T (rdL (ask T s h1 j1 3).2 h1 j1) h2 j2 3) g).trans ?_)
  rw [show (ask T (rdL (ask T s h1 j1 3).2 h1 j1) h2 j2 3).2 = s2 from e2, eh, eo2]
  refine (thn_1 hr).trans ?_
  show (_, sTc s2 (2 * (8 * hob s2 h2 + j2))) = _
  rw [eo2]
theorem pShf_4 {T : Nat → Nat} {s s1 s2 : tS} {h1 j1 h2 j2 y o1 o2 : Nat} (h : (ask T s h1 j1 (3 : Int32).toNatClampNeg).1 = 0) (e1 : (ask T s h1 j1 (3 : Int32).toNatClampNeg).2 = s1) (eo : hob s1 h1 = o1) (g : (ask T (sTc s1 (2 * (8 * o1 + j1))) h2 j2 (3 : Int32).toNatClampNeg).1 = 0) (e2 : (ask T (sTc s1 (2 * (8 * o1 + j1))) h2 j2 (3 : Int32).toNatClampNeg).2 = s2) (eo2 : hob s2 h2 = o2) (sr : shR (bdS s2 o1) (bdS s2 o2) j1 j2 (vaS s2 y) = 0) : pShf T s h1 j1 h2 j2 y = (0, sBd (sTc (sTc s2 (2 * (8 * o2 + j2))) (2 * (8 * o2 + j2) + 1)) o2 (cpyM (bdS s2 o1) (bdS s2 o2) j1 j2 (vaS s2 y).toInt.toNat)) := by
  have eh : hob s2 h1 = o1 := by rw [← e2, hob_ask]; exact eo
  subst e1 eo
  refine (thn_0 (r := ask T s h1 j1 3) h).trans ((thn_0 (r := ask T (rdL (ask T s h1 j1 3).2 h1 j1) h2 j2 3) g).trans ?_)
  rw [show (ask T (rdL (ask T s h1 j1 3).2 h1 j1) h2 j2 3).2 = s2 from e2, eh, eo2]
  refine (thn_0 sr).trans ?_
  show (0, sBd (sTc (sTc s2 (2 * (8 * hob s2 h2 + j2))) (2 * (8 * hob s2 h2 + j2) + 1)) (hob s2 h2) (cpyM (bdS s2 (hob s2 h1)) (bdS s2 (hob s2 h2)) j1 j2 (vaS s2 y).toInt.toNat)) = _
  rw [eo2, eh]
