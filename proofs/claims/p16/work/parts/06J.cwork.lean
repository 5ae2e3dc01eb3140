theorem lik_nlm {n : Nat} {T : Nat → Nat} {s : tS} {p q : Int32} (hn : n ≤ 24) (hp : okHa n p) (hq : okHa n q) : nld s ≤ nld (lik T s p q).2 := by
  unfold lik
  split
  · exact Nat.le_refl _
  · split
    · exact Nat.le_refl _
    · rename_i h
      have hp3 : p ≠ -3 := fun e => h (Or.inl e)
      have hq3 : q ≠ -3 := fun e => h (Or.inr (Or.inl e))
      have p1 := okHa_ob hp hp3
      have q1 := okHa_ob hq hq3
      rw [nl_lkF, nld_l (by omega), nld_l (by omega)]
      omega
theorem prf_nlm {n : Nat} {T : Nat → Nat} {t : tA} {s : tS} (hn : n ≤ 24) (ho : okS n T s) (ht : okA t) : nld s ≤ nld (prf T t s).2 := by
  obtain ⟨κ, hκ, e1, f0, f1, f2, f3, f4⟩ := ht
  have hc : κ = 0 ∨ κ = 1 ∨ κ = 2 ∨ κ = 3 ∨ κ = 4 ∨ κ = 5 ∨ κ = 6 ∨ κ = 7 ∨ κ = 8 ∨ κ = 9 ∨ κ = 10 ∨ κ = 11 ∨ κ = 12 ∨ κ = 13 ∨ κ = 14 ∨ κ = 15 ∨ κ = 16 ∨ κ = 17 := by omega
  rcases hc with rfl | rfl | rfl | rfl | rfl | rfl | rfl | rfl | rfl | rfl | rfl | rfl | rfl | rfl | rfl | rfl | rfl | rfl
  · rw [prf_0 e1]; exact Nat.le_refl _
  · rw [prf_1 e1]; exact Nat.le_refl _
  · rw [prf_2 e1]; exact Nat.le_refl _
  · rw [prf_3 e1]; split <;> exact Nat.le_refl _
  · rw [prf_4 e1, nl_pGet]; exact ask_nlm hn ho (show t.2.2.1.toInt.toNat < 4 from by have := fit_get (m := 3) rfl (by decide) kI_3 f1; omega)
  · rw [prf_5 e1, nl_pPut]; exact ask_nlm hn ho (show t.2.1.toInt.toNat < 4 from by have := fit_get (m := 3) rfl (by decide) kI_3 f0; omega)
  · rw [prf_6 e1, nl_pFol]; exact ask_nlm hn ho (show t.2.2.1.toInt.toNat < 4 from by have := fit_get (m := 3) rfl (by decide) kI_3 f1; omega)
  · rw [prf_7 e1, nl_pPut]; exact ask_nlm hn ho (show t.2.1.toInt.toNat < 4 from by have := fit_get (m := 3) rfl (by decide) kI_3 f0; omega)
  · rw [prf_8 e1, nl_pItm]; exact ask_nlm hn ho (show t.2.2.1.toInt.toNat < 4 from by have := fit_get (m := 3) rfl (by decide) kI_3 f1; omega)
  · rw [prf_9 e1, nl_pLay]; exact ask_nlm hn ho (show t.2.1.toInt.toNat < 4 from by have := fit_get (m := 3) rfl (by decide) kI_3 f0; omega)
  · rw [prf_10 e1, nl_pRow]; exact ask_nlm hn ho (show t.2.1.toInt.toNat < 4 from by have := fit_get (m := 3) rfl (by decide) kI_3 f0; omega)
  · rw [prf_11 e1]
    have h1 : aA t < 4 := (show t.2.1.toInt.toNat < 4 from by have := fit_get (m := 3) rfl (by decide) kI_3 f0; omega)
    exact Nat.le_trans (ask_nlm hn ho h1) (nl_pShfm hn ho h1 (show t.2.2.1.toInt.toNat < 8 from by have := fit_get (m := 7) rfl (by decide) kI_7 f1; omega) (show t.2.2.2.1.toInt.toNat < 4 from by have := fit_get (m := 3) rfl (by decide) kI_3 f2; omega))
  · rw [prf_12 e1]; exact Nat.le_refl _
  · rw [prf_13 e1]
    exact lik_nlm (T := T) (s := s) hn (ho.2.1 _ (show t.2.2.1.toInt.toNat < 4 from by have := fit_get (m := 3) rfl (by decide) kI_3 f1; omega)) (ho.2.1 _ (show t.2.2.2.1.toInt.toNat < 4 from by have := fit_get (m := 3) rfl (by decide) kI_3 f2; omega))
  · rw [prf_14 e1]; exact Nat.le_refl _
  · rw [prf_15 e1]; exact Nat.le_refl _
  · rw [prf_16 e1]; exact Nat.le_refl _
  · rw [prf_17 e1]; exact Nat.le_refl _
theorem rnS_nlm {n z : Nat} {T : Nat → Nat} {A : Nat → tA} (hn : n ≤ 24) (hT : ∀ o, T o < 3) (hA : ∀ p, p < z → okA (A p)) : ∀ (m p c : Nat) (s : tS), okS n T s → nld s ≤ nld (rnS T A z m p c s).2.2.2
  | 0, p, c, s, _ => by unfold rnS; split <;> exact Nat.le_refl _
  | m + 1, p, c, s, ho => by
    unfold rnS
    split
    · rename_i hp
      split
      · exact Nat.le_trans (prf_nlm hn ho (hA _ hp)) (rnS_nlm hn hT hA m _ _ _ (prf_ok hn hT ho (hA _ hp)))
      · exact prf_nlm hn ho (hA _ hp)
    · exact Nat.le_refl _
theorem nxt_le {t : tA} {p : Nat} {s : tS} (ht : okA t) (hp : p < 32) : nxt t p s ≤ 32 := by
  obtain ⟨κ, hκ, e1, f0, f1, f2, f3, f4⟩ := ht
  have hc : κ = 0 ∨ κ = 1 ∨ κ = 2 ∨ κ = 3 ∨ κ = 4 ∨ κ = 5 ∨ κ = 6 ∨ κ = 7 ∨ κ = 8 ∨ κ = 9 ∨ κ = 10 ∨ κ = 11 ∨ κ = 12 ∨ κ = 13 ∨ κ = 14 ∨ κ = 15 ∨ κ = 16 ∨ κ = 17 := by omega
  rcases hc with rfl | rfl | rfl | rfl | rfl | rfl | rfl | rfl | rfl | rfl | rfl | rfl | rfl | rfl | rfl | rfl | rfl | rfl
  · rw [nxt_0 e1]; omega
  · rw [nxt_1 e1]; omega
  · rw [nxt_2 e1]; omega
  · rw [nxt_3 e1]; omega
  · rw [nxt_4 e1]; omega
  · rw [nxt_5 e1]; omega
  · rw [nxt_6 e1]; omega
  · rw [nxt_7 e1]; omega
  · rw [nxt_8 e1]; omega
  · rw [nxt_9 e1]; omega
  · rw [nxt_10 e1]; omega
  · rw [nxt_11 e1]; omega
  · rw [nxt_12 e1]; omega
  · rw [nxt_13 e1]; omega
  · rw [nxt_14 e1]; exact (show t.2.2.1.toInt.toNat ≤ 32 from by have := fit_get (m := 32) rfl (by decide) kI_32 f1; omega)
  · rw [nxt_15 e1]; split; exact (show t.2.2.1.toInt.toNat ≤ 32 from by have := fit_get (m := 32) rfl (by decide) kI_32 f1; omega); omega
  · rw [nxt_16 e1]; exact Nat.le_refl _
  · rw [nxt_17 e1]; omega
