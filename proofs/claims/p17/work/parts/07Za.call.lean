/-! throws are small -/
theorem ask_8 {T : Nat → Nat} {s : tS} {hd j st : Nat} : (ask T s hd j st).1 ≤ 8 := by
  unfold ask
  split
  · show 1 ≤ 8; omega
  · show (if _ then 3 else if _ then 0 else 2) ≤ 8
    split
    · omega
    · split <;> omega
theorem thn_8 {r : Nat × tS} {k : tS → Nat × tS} (h : r.1 ≤ 8) (hk : ∀ s, (k s).1 ≤ 8) : (thn r k).1 ≤ 8 := by
  unfold thn
  split
  · exact hk _
  · exact h
theorem iRf_8 {b : tB} {j : Nat} {v : Int64} : iRf b j v ≤ 8 := by
  unfold iRf
  split
  · omega
  · split <;> omega
theorem shR_8 {b1 b2 : tB} {j1 j2 : Nat} {m : Int64} : shR b1 b2 j1 j2 m ≤ 8 := by
  unfold shR
  split
  · omega
  · split <;> omega
theorem prf_8b {T : Nat → Nat} {t : tA} {s : tS} (ht : okA t) : (prf T t s).1 ≤ 8 := by
  obtain ⟨κ, hκ, e1, -⟩ := ht
  have z8 : 0 ≤ 8 := by omega
  have hc : κ = 0 ∨ κ = 1 ∨ κ = 2 ∨ κ = 3 ∨ κ = 4 ∨ κ = 5 ∨ κ = 6 ∨ κ = 7 ∨ κ = 8 ∨ κ = 9 ∨ κ = 10 ∨ κ = 11 ∨ κ = 12 ∨ κ = 13 ∨ κ = 14 ∨ κ = 15 ∨ κ = 16 ∨ κ = 17 := by omega
  rcases hc with rfl | rfl | rfl | rfl | rfl | rfl | rfl | rfl | rfl | rfl | rfl | rfl | rfl | rfl | rfl | rfl | rfl | rfl
  · rw [prf_0 e1]; exact z8
  · rw [prf_1 e1]; exact z8
  · rw [prf_2 e1]; exact z8
  · rw [prf_3 e1]
    split
    · show 5 ≤ 8; omega
    · exact z8
  · rw [prf_4 e1]; exact thn_8 ask_8 (fun _ => z8)
  · rw [prf_5 e1]; exact thn_8 ask_8 (fun _ => z8)
  · rw [prf_6 e1]; exact thn_8 ask_8 (fun _ => z8)
  · rw [prf_7 e1]; exact thn_8 ask_8 (fun _ => z8)
  · rw [prf_8 e1]; exact thn_8 ask_8 (fun _ => thn_8 iRf_8 (fun _ => z8))
  · rw [prf_9 e1]; exact thn_8 ask_8 (fun _ => thn_8 iRf_8 (fun _ => z8))
  · rw [prf_10 e1]
    refine thn_8 ask_8 (fun s => ?_)
    show (if _ then (4, s) else if _ then (8, s) else (0, _) : Nat × tS).1 ≤ 8
    split
    · show 4 ≤ 8; omega
    · split
      · exact Nat.le_refl 8
      · exact z8
  · rw [prf_11 e1]; exact thn_8 ask_8 (fun _ => thn_8 ask_8 (fun _ => thn_8 shR_8 (fun _ => z8)))
  · rw [prf_12 e1]; exact z8
  · rw [prf_13 e1]; exact z8
  · rw [prf_14 e1]; exact z8
  · rw [prf_15 e1]; exact z8
  · rw [prf_16 e1]; exact z8
  · rw [prf_17 e1]; show 6 ≤ 8; omega
theorem rnS_8 {T : Nat → Nat} {A : Nat → tA} {z : Nat} (hA : ∀ p, p < z → okA (A p)) : ∀ (m p c : Nat) (s : tS), (rnS T A z m p c s).1 ≤ 8
  | 0, p, c, s => by
    unfold rnS
    split
    · show 7 ≤ 8; omega
    · show 0 ≤ 8; omega
  | m + 1, p, c, s => by
    unfold rnS
    split
    · rename_i h
      split
      · exact rnS_8 hA m _ _ _
      · exact prf_8b (hA p h)
    · show 0 ≤ 8; omega
theorem eS_ldU {s : tS} : ∀ m, eS s (ldU m s)
  | 0 => eS.rf
  | m + 1 => ⟨(eS_ldU (s := s) m).1, (eS_ldU (s := s) m).2⟩
theorem nld_s0 {b : Nat → tB} {o : Int32} {v : Int64} : nld (s0C b o v) = 0 := by
  unfold nld
  have : ∀ m, cnt (ldS (s0C b o v)) m = 0 := fun m => by
    induction m with
    | zero => rfl
    | succ m ih => show cnt (ldS (s0C b o v)) m + (if false = true then 1 else 0) = 0; rw [ih]; rfl
  exact this 24
