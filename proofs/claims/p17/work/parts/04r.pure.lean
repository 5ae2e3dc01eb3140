/-! what is loaded does not show in what a call does -/
def eS (s1 s2 : tS) : Prop := s1.1 = s2.1 ∧ s1.2.2 = s2.2.2
def pE (r1 r2 : Nat × tS) : Prop := r1.1 = r2.1 ∧ eS r1.2 r2.2
theorem eS.rf {s : tS} : eS s s := ⟨rfl, rfl⟩
theorem eS_el {P : tS → tS → Prop} (h : ∀ b l1 l2 r, P (b, l1, r) (b, l2, r)) {s1 s2 : tS} (e : eS s1 s2) : P s1 s2 := by
  obtain ⟨b1, l1, r1⟩ := s1
  obtain ⟨b2, l2, r2⟩ := s2
  obtain ⟨e1, e2⟩ := e
  have e1 : b1 = b2 := e1
  have e2 : r1 = r2 := e2
  subst e1 e2
  exact h b1 l1 l2 r1
theorem thn_e {r1 r2 : Nat × tS} {k : tS → Nat × tS} (h : pE r1 r2) (hk : ∀ s1 s2, eS s1 s2 → pE (k s1) (k s2)) : pE (thn r1 k) (thn r2 k) := by
  by_cases h0 : r1.1 = 0
  · rw [thn_0 h0, thn_0 (h.1 ▸ h0)]; exact hk _ _ h.2
  · rw [thn_1 h0, thn_1 (h.1 ▸ h0)]; exact h
theorem ask_e {T : Nat → Nat} {hd j st : Nat} {s1 s2 : tS} (e : eS s1 s2) : pE (ask T s1 hd j st) (ask T s2 hd j st) := by
  refine eS_el (P := fun s1 s2 => pE (ask T s1 hd j st) (ask T s2 hd j st)) (fun b l1 l2 r => ?_) e
  unfold ask
  by_cases h : r.1 hd = -3
  · rw [if_pos (show haS (b, l1, r) hd = -3 from h), if_pos (show haS (b, l2, r) hd = -3 from h)]; exact ⟨rfl, rfl, rfl⟩
  · rw [if_neg (show ¬ haS (b, l1, r) hd = -3 from h), if_neg (show ¬ haS (b, l2, r) hd = -3 from h)]; exact ⟨rfl, rfl, rfl⟩
section EQ
variable {T : Nat → Nat} {s1 s2 : tS}
theorem pGet_e {x hd j : Nat} (e : eS s1 s2) : pE (pGet T s1 x hd j) (pGet T s2 x hd j) := thn_e (ask_e e) (fun _ _ e => eS_el (P := fun s1 s2 => pE (0, sVa (rdL s1 hd j) x ((bdS s1 (hob s1 hd)).1 j)) (0, sVa (rdL s2 hd j) x ((bdS s2 (hob s2 hd)).1 j))) (fun _ _ _ _ => ⟨rfl, rfl, rfl⟩) e)
theorem pFol_e {x hd j : Nat} (e : eS s1 s2) : pE (pFol T s1 x hd j) (pFol T s2 x hd j) := thn_e (ask_e e) (fun _ _ e => eS_el (P := fun s1 s2 => pE (0, sHa (rdL s1 hd j) x ((bdS s1 (hob s1 hd)).1 j).toInt32) (0, sHa (rdL s2 hd j) x ((bdS s2 (hob s2 hd)).1 j).toInt32)) (fun _ _ _ _ => ⟨rfl, rfl, rfl⟩) e)
theorem pPut_e {hd j st : Nat} {v : Int64} (e : eS s1 s2) : pE (pPut T s1 hd j st v) (pPut T s2 hd j st v) := thn_e (ask_e e) (fun _ _ e => eS_el (P := fun s1 s2 => pE (0, sBd (chL s1 hd j) (hob s1 hd) (setC (bdS s1 (hob s1 hd)) j v)) (0, sBd (chL s2 hd j) (hob s2 hd) (setC (bdS s2 (hob s2 hd)) j v))) (fun _ _ _ _ => ⟨rfl, rfl, rfl⟩) e)
theorem pItm_e {x hd j y : Nat} (e : eS s1 s2) : pE (pItm T s1 x hd j y) (pItm T s2 x hd j y) := thn_e (ask_e e) (fun _ _ e => thn_e (eS_el (P := fun s1 s2 => pE (iRf (bdS s1 (hob s1 hd)) j (vaS s1 y), rdL s1 hd j) (iRf (bdS s2 (hob s2 hd)) j (vaS s2 y), rdL s2 hd j)) (fun _ _ _ _ => ⟨rfl, rfl, rfl⟩) e) (fun _ _ e => eS_el (P := fun s1 s2 => pE (0, sVa s1 x ((bdS s1 (hob s1 hd)).2 (plc j (vaS s1 y).toInt.toNat)).toInt64) (0, sVa s2 x ((bdS s2 (hob s2 hd)).2 (plc j (vaS s2 y).toInt.toNat)).toInt64)) (fun _ _ _ _ => ⟨rfl, rfl, rfl⟩) e))
theorem pLay_e {hd j y x : Nat} (e : eS s1 s2) : pE (pLay T s1 hd j y x) (pLay T s2 hd j y x) := thn_e (ask_e e) (fun _ _ e => thn_e (eS_el (P := fun s1 s2 => pE (iRf (bdS s1 (hob s1 hd)) j (vaS s1 y), rdL s1 hd j) (iRf (bdS s2 (hob s2 hd)) j (vaS s2 y), rdL s2 hd j)) (fun _ _ _ _ => ⟨rfl, rfl, rfl⟩) e) (fun _ _ e => eS_el (P := fun s1 s2 => pE (0, sBd (chL s1 hd j) (hob s1 hd) (setM (bdS s1 (hob s1 hd)) (plc j (vaS s1 y).toInt.toNat) (vaS s1 x).toInt32)) (0, sBd (chL s2 hd j) (hob s2 hd) (setM (bdS s2 (hob s2 hd)) (plc j (vaS s2 y).toInt.toNat) (vaS s2 x).toInt32))) (fun _ _ _ _ => ⟨rfl, rfl, rfl⟩) e))
theorem pRow_e {hd j : Nat} {v : Int64} (e : eS s1 s2) : pE (pRow T s1 hd j v) (pRow T s2 hd j v) := thn_e (ask_e e) (fun _ _ e => by
  refine eS_el (P := fun s1 s2 => pE (if v.toInt < 0 then (4, s1) else if 8 < v.toInt then (8, s1) else (0, sBd (chL s1 hd j) (hob s1 hd) (renB (bdS s1 (hob s1 hd)) j v))) (if v.toInt < 0 then (4, s2) else if 8 < v.toInt then (8, s2) else (0, sBd (chL s2 hd j) (hob s2 hd) (renB (bdS s2 (hob s2 hd)) j v)))) (fun _ _ _ _ => ?_) e
  by_cases h1 : v.toInt < 0
  · rw [if_pos h1, if_pos h1]; exact ⟨rfl, rfl, rfl⟩
  · rw [if_neg h1, if_neg h1]
    by_cases h2 : 8 < v.toInt
    · rw [if_pos h2, if_pos h2]; exact ⟨rfl, rfl, rfl⟩
    · rw [if_neg h2, if_neg h2]; exact ⟨rfl, rfl, rfl⟩)
theorem pShf_e {h1 j1 h2 j2 y : Nat} (e : eS s1 s2) : pE (pShf T s1 h1 j1 h2 j2 y) (pShf T s2 h1 j1 h2 j2 y) := thn_e (ask_e e) (fun _ _ e => thn_e (ask_e (eS_el (P := fun s1 s2 => eS (rdL s1 h1 j1) (rdL s2 h1 j1)) (fun _ _ _ _ => ⟨rfl, rfl⟩) e)) (fun _ _ e => thn_e (eS_el (P := fun s1 s2 => pE (shR (bdS s1 (hob s1 h1)) (bdS s1 (hob s1 h2)) j1 j2 (vaS s1 y), rdL s1 h2 j2) (shR (bdS s2 (hob s2 h1)) (bdS s2 (hob s2 h2)) j1 j2 (vaS s2 y), rdL s2 h2 j2)) (fun _ _ _ _ => ⟨rfl, rfl, rfl⟩) e) (fun _ _ e => eS_el (P := fun s1 s2 => pE (0, sBd (chL s1 h2 j2) (hob s1 h2) (cpyM (bdS s1 (hob s1 h1)) (bdS s1 (hob s1 h2)) j1 j2 (vaS s1 y).toInt.toNat)) (0, sBd (chL s2 h2 j2) (hob s2 h2) (cpyM (bdS s2 (hob s2 h1)) (bdS s2 (hob s2 h2)) j1 j2 (vaS s2 y).toInt.toNat))) (fun _ _ _ _ => ⟨rfl, rfl, rfl⟩) e)))
theorem lkF_e {t p q : Nat} : ∀ (m j : Nat) (s1 s2 : tS), eS s1 s2 → (lkF t p q m j s1).1 = (lkF t p q m j s2).1 ∧ eS (lkF t p q m j s1).2 (lkF t p q m j s2).2
  | 0, _, _, _, e => ⟨rfl, e⟩
  | m + 1, j, s1, s2, e => by
    refine eS_el (P := fun s1 s2 => (lkF t p q (m + 1) j s1).1 = (lkF t p q (m + 1) j s2).1 ∧ eS (lkF t p q (m + 1) j s1).2 (lkF t p q (m + 1) j s2).2) (fun b l1 l2 r => ?_) e
    unfold lkF
    by_cases h0 : srt t j = 0
    · rw [if_pos h0, if_pos h0]; exact ⟨rfl, rfl, rfl⟩
    · rw [if_neg h0, if_neg h0]
      by_cases h1 : sameD t j (b p) (b q) = true
      · rw [if_pos (show sameD t j (bdS (b, l1, r) p) (bdS (b, l1, r) q) = true from h1), if_pos (show sameD t j (bdS (b, l2, r) p) (bdS (b, l2, r) q) = true from h1)]
        exact lkF_e m (j + 1) _ _ ⟨rfl, rfl⟩
      · rw [if_neg (show ¬ sameD t j (bdS (b, l1, r) p) (bdS (b, l1, r) q) = true from h1), if_neg (show ¬ sameD t j (bdS (b, l2, r) p) (bdS (b, l2, r) q) = true from h1)]
        exact ⟨rfl, rfl, rfl⟩
theorem lik_e {p q : Int32} (e : eS s1 s2) : (lik T s1 p q).1 = (lik T s2 p q).1 ∧ eS (lik T s1 p q).2 (lik T s2 p q).2 := by
  unfold lik
  by_cases h1 : p = q
  · rw [if_pos h1, if_pos h1]; exact ⟨rfl, e⟩
  · rw [if_neg h1, if_neg h1]
    by_cases h2 : p = -3 ∨ q = -3 ∨ T p.toNatClampNeg ≠ T q.toNatClampNeg
    · rw [if_pos h2, if_pos h2]; exact ⟨rfl, e⟩
    · rw [if_neg h2, if_neg h2]
      exact lkF_e 8 0 _ _ (eS_el (P := fun s1 s2 => eS (sLd (sLd s1 p.toNatClampNeg) q.toNatClampNeg) (sLd (sLd s2 p.toNatClampNeg) q.toNatClampNeg)) (fun _ _ _ _ => ⟨rfl, rfl⟩) e)
theorem prf_e {t : tA} (e : eS s1 s2) (ht : okA t) : pE (prf T t s1) (prf T t s2) := by
  obtain ⟨κ, hκ, e1, -, -, -, -, -⟩ := ht
  have hc : κ = 0 ∨ κ = 1 ∨ κ = 2 ∨ κ = 3 ∨ κ = 4 ∨ κ = 5 ∨ κ = 6 ∨ κ = 7 ∨ κ = 8 ∨ κ = 9 ∨ κ = 10 ∨ κ = 11 ∨ κ = 12 ∨ κ = 13 ∨ κ = 14 ∨ κ = 15 ∨ κ = 16 ∨ κ = 17 := by omega
  have hv : vaS s1 = vaS s2 := by show s1.2.2.2.1 = s2.2.2.2.1; rw [e.2]
  have hh : haS s1 = haS s2 := by show s1.2.2.1 = s2.2.2.1; rw [e.2]
  have hS : ∀ x v, eS (sVa s1 x v) (sVa s2 x v) := fun x v => eS_el (P := fun s1 s2 => eS (sVa s1 x v) (sVa s2 x v)) (fun _ _ _ _ => ⟨rfl, rfl⟩) e
  rcases hc with rfl | rfl | rfl | rfl | rfl | rfl | rfl | rfl | rfl | rfl | rfl | rfl | rfl | rfl | rfl | rfl | rfl | rfl
  · rw [prf_0 e1, prf_0 e1]; exact ⟨rfl, hS _ _⟩
  · rw [prf_1 e1, prf_1 e1, hv]; exact ⟨rfl, hS _ _⟩
  · rw [prf_2 e1, prf_2 e1, hv]; exact ⟨rfl, hS _ _⟩
  · rw [prf_3 e1, prf_3 e1, hv]
    by_cases h : vaS s2 (aC t) = 0
    · rw [if_pos h, if_pos h]; exact ⟨rfl, e⟩
    · rw [if_neg h, if_neg h]; exact ⟨rfl, hS _ _⟩
  · rw [prf_4 e1, prf_4 e1]; exact pGet_e e
  · rw [prf_5 e1, prf_5 e1, hv]; exact pPut_e e
  · rw [prf_6 e1, prf_6 e1]; exact pFol_e e
  · rw [prf_7 e1, prf_7 e1, hh]; exact pPut_e e
  · rw [prf_8 e1, prf_8 e1]; exact pItm_e e
  · rw [prf_9 e1, prf_9 e1]; exact pLay_e e
  · rw [prf_10 e1, prf_10 e1, hv]; exact pRow_e e
  · rw [prf_11 e1, prf_11 e1]; exact pShf_e e
  · rw [prf_12 e1, prf_12 e1, hh]; exact ⟨rfl, hS _ _⟩
  · rw [prf_13 e1, prf_13 e1, hh]
    have hl := lik_e (T := T) (p := haS s2 (aB t)) (q := haS s2 (aC t)) e
    rw [hl.1]
    exact ⟨rfl, eS_el (P := fun s1 s2 => eS (sVa s1 (aA t) _) (sVa s2 (aA t) _)) (fun _ _ _ _ => ⟨rfl, rfl⟩) hl.2⟩
  · rw [prf_14 e1, prf_14 e1]; exact ⟨rfl, e⟩
  · rw [prf_15 e1, prf_15 e1]; exact ⟨rfl, e⟩
  · rw [prf_16 e1, prf_16 e1, hv]
    exact ⟨rfl, eS_el (P := fun s1 s2 => eS (sGf s1 _) (sGf s2 _)) (fun _ _ _ _ => ⟨rfl, rfl⟩) e⟩
  · rw [prf_17 e1, prf_17 e1]; exact ⟨rfl, e⟩
theorem nxt_e {t : tA} {p : Nat} (e : eS s1 s2) : nxt t p s1 = nxt t p s2 := by
  have hv : vaS s1 = vaS s2 := by show s1.2.2.2.1 = s2.2.2.2.1; rw [e.2]
  unfold nxt
  rw [hv]
end EQ
theorem rnS_e {z : Nat} {T : Nat → Nat} {A : Nat → tA} (hA : ∀ p, p < z → okA (A p)) : ∀ (m p c : Nat) (s1 s2 : tS), eS s1 s2 → (rnS T A z m p c s1).1 = (rnS T A z m p c s2).1 ∧ (rnS T A z m p c s1).2.1 = (rnS T A z m p c s2).2.1 ∧ (rnS T A z m p c s1).2.2.1 = (rnS T A z m p c s2).2.2.1 ∧ eS (rnS T A z m p c s1).2.2.2 (rnS T A z m p c s2).2.2.2
  | 0, p, c, s1, s2, e => by
    unfold rnS
    by_cases h : p < z
    · rw [if_pos h, if_pos h]; exact ⟨rfl, rfl, rfl, e⟩
    · rw [if_neg h, if_neg h]; exact ⟨rfl, rfl, rfl, e⟩
  | m + 1, p, c, s1, s2, e => by
    unfold rnS
    by_cases h : p < z
    · rw [if_pos h, if_pos h]
      have hp := prf_e (T := T) e (hA p h)
      by_cases h0 : (prf T (A p) s2).1 = 0
      · rw [if_pos (hp.1.trans h0), if_pos h0, nxt_e e]
        exact rnS_e hA m _ _ _ _ hp.2
      · rw [if_neg (fun q => h0 (hp.1.symm.trans q)), if_neg h0]
        exact ⟨hp.1, rfl, rfl, hp.2⟩
    · rw [if_neg h, if_neg h]; exact ⟨rfl, rfl, rfl, e⟩
/-! the gift: none where the call throws -/
theorem thn_gf {r : Nat × tS} {k : tS → Nat × tS} {g : Int64} (h : gfS r.2 = g) (hk : gfS (k r.2).2 = gfS r.2) : gfS (thn r k).2 = g := by
  unfold thn
  split
  · exact hk.trans h
  · exact h
theorem lkF_gf {t p q : Nat} : ∀ (m j : Nat) (s : tS), gfS (lkF t p q m j s).2 = gfS s
  | 0, _, _ => rfl
  | m + 1, j, s => by
    unfold lkF
    split
    · rfl
    · split
      · exact lkF_gf m (j + 1) _
      · rfl
theorem lik_gf {T : Nat → Nat} {s : tS} {p q : Int32} : gfS (lik T s p q).2 = gfS s := by
  unfold lik
  split
  · rfl
  · split
    · rfl
    · exact lkF_gf 8 0 _
theorem prf_gf {T : Nat → Nat} {t : tA} {s : tS} (ht : okA t) (h16 : t.1 ≠ nI 16) : gfS (prf T t s).2 = gfS s := by
  obtain ⟨κ, hκ, e1, -, -, -, -, -⟩ := ht
  have hc : κ = 0 ∨ κ = 1 ∨ κ = 2 ∨ κ = 3 ∨ κ = 4 ∨ κ = 5 ∨ κ = 6 ∨ κ = 7 ∨ κ = 8 ∨ κ = 9 ∨ κ = 10 ∨ κ = 11 ∨ κ = 12 ∨ κ = 13 ∨ κ = 14 ∨ κ = 15 ∨ κ = 16 ∨ κ = 17 := by omega
  rcases hc with rfl | rfl | rfl | rfl | rfl | rfl | rfl | rfl | rfl | rfl | rfl | rfl | rfl | rfl | rfl | rfl | rfl | rfl
  · rw [prf_0 e1]; rfl
  · rw [prf_1 e1]; rfl
  · rw [prf_2 e1]; rfl
  · rw [prf_3 e1]; split <;> rfl
  · rw [prf_4 e1]; exact thn_gf ask_gf rfl
  · rw [prf_5 e1]; exact thn_gf ask_gf rfl
  · rw [prf_6 e1]; exact thn_gf ask_gf rfl
  · rw [prf_7 e1]; exact thn_gf ask_gf rfl
  · rw [prf_8 e1]; exact thn_gf ask_gf (thn_gf rfl rfl)
  · rw [prf_9 e1]; exact thn_gf ask_gf (thn_gf rfl rfl)
  · rw [prf_10 e1]
    refine thn_gf ask_gf ?_
    show gfS (if (vaS s (aC t)).toInt < 0 then (4, _) else if 8 < (vaS s (aC t)).toInt then (8, _) else (0, _) : Nat × tS).2 = _
    split
    · rfl
    · split <;> rfl
  · rw [prf_11 e1]; exact thn_gf ask_gf (thn_gf (ask_gf.trans rfl) (thn_gf rfl rfl))
  · rw [prf_12 e1]; rfl
  · rw [prf_13 e1]; exact lik_gf
  · rw [prf_14 e1]
  · rw [prf_15 e1]
  · exact absurd e1 h16
  · rw [prf_17 e1]
theorem rnS_gf {z : Nat} {T : Nat → Nat} {A : Nat → tA} (hz : z ≤ 32) (hA : ∀ p, p < z → okA (A p)) : ∀ (m p c : Nat) (s : tS), gfS s = 0 → (rnS T A z m p c s).1 ≠ 0 → gfS (rnS T A z m p c s).2.2.2 = 0
  | 0, p, c, s, h, ht => by
    unfold rnS at ht ⊢
    split at ht
    · rw [if_pos ‹_›]; exact h
    · exact absurd rfl ht
  | m + 1, p, c, s, h, ht => by
    unfold rnS at ht ⊢
    by_cases hp : p < z
    · rw [if_pos hp] at ht ⊢
      by_cases h0 : (prf T (A p) s).1 = 0
      · rw [if_pos h0] at ht ⊢
        by_cases h16 : (A p).1 = nI 16
        · rw [nxt_16 h16] at ht
          exfalso
          apply ht
          cases m with
          | zero => unfold rnS; rw [if_neg (by omega)]
          | succ m => unfold rnS; rw [if_neg (by omega)]
        · exact rnS_gf hz hA m _ _ _ ((prf_gf (hA p hp) h16).trans h) ht
      · rw [if_neg h0]
        by_cases h16 : (A p).1 = nI 16
        · rw [prf_16 h16] at h0; exact absurd rfl h0
        · exact (prf_gf (hA p hp) h16).trans h
    · rw [if_neg hp] at ht; exact absurd rfl ht
theorem rnS_gz {z : Nat} {T : Nat → Nat} {A : Nat → tA} : ∀ (m p c : Nat) (s : tS), (rnS T A z m p c s).2.2.1 ≤ c + m
  | 0, p, c, s => by unfold rnS; split <;> exact Nat.le_refl _
  | m + 1, p, c, s => by
    unfold rnS
    split
    · split
      · have := rnS_gz (z := z) (T := T) (A := A) m (nxt (A p) p s) (c + 1) (prf T (A p) s).2
        omega
      · show c + 1 ≤ c + (m + 1)
        omega
    · show c ≤ c + (m + 1)
      omega
/-! counting -/
def cnt (p : Nat → Bool) : Nat → Nat
  | 0 => 0
  | m + 1 => cnt p m + (if p m = true then 1 else 0)
theorem cnt_le (p : Nat → Bool) : ∀ m, cnt p m ≤ m
  | 0 => Nat.le_refl 0
  | m + 1 => by
    have := cnt_le p m
    show cnt p m + (if p m = true then 1 else 0) ≤ m + 1
    split <;> omega
theorem cnt_c {p q : Nat → Bool} : ∀ m, (∀ o, o < m → p o = q o) → cnt p m = cnt q m
  | 0, _ => rfl
  | m + 1, h => by
    show cnt p m + _ = cnt q m + _
    rw [cnt_c m (fun o ho => h o (by omega)), h m (by omega)]
theorem cnt_up {p : Nat → Bool} {o : Nat} (hp : p o = false) : ∀ m, o < m → cnt (va_up p o true) m = cnt p m + 1
  | 0, h => by omega
  | m + 1, h => by
    show cnt (va_up p o true) m + (if va_up p o true m = true then 1 else 0) = cnt p m + (if p m = true then 1 else 0) + 1
    by_cases ho : o = m
    · subst ho
      rw [cnt_c (q := p) o (fun x hx => va_up_ne _ _ (by omega)), va_up_self, hp, if_pos rfl, if_neg (by simp)]
    · rw [cnt_up hp m (by omega), va_up_ne _ _ (Ne.symm ho)]
      omega
theorem cnt_0 {p : Nat → Bool} : ∀ m, (∀ o, o < m → p o = false) → cnt p m = 0
  | 0, _ => rfl
  | m + 1, h => by
    show cnt p m + _ = 0
    rw [cnt_0 m (fun o ho => h o (by omega)), h m (by omega)]
    rfl
