/-! the reference's memory, exactly: c its numbers (height, fetches, calls, gave, where, touchedMany, writtenMany, acts, threw, status), I its rows of ints by field, J its rows of longs -/
abbrev tC : Type := Int32 × Int32 × Int32 × Int64 × Int32 × Int32 × Int32 × Int32 × Int32 × Int32
def tyM (k : Nat) : Nat := if k = 6 ∨ k = 24 then 2 else 0
def lenM (k : Nat) : Nat := match k with
  | 1 => 24
  | 3 => 8064
  | 4 => 8064
  | 5 => 64512
  | 6 => 24
  | 8 => 192
  | 9 => 6
  | 10 => 192
  | 11 => 192
  | 12 => 192
  | 13 => 192
  | 14 => 192
  | 15 => 192
  | 20 => 400
  | 21 => 400
  | 23 => 192
  | 24 => 24
  | 26 => 4
  | 27 => 4
  | _ => 0
def rI (k : Nat) : Bool := [1, 4, 5, 6, 8, 9, 10, 11, 13, 14, 15, 20, 21, 23, 24, 26].contains k
def rJ (k : Nat) : Bool := [3, 12, 27].contains k
abbrev m0 (h : Nat → Nat) (n : Nat) (c : tC) : va_E := .inr (6, [.int (nI n), .ref (h 1), .int c.1, .ref (h 3), .ref (h 4), .ref (h 5), .ref (h 6), .int c.2.1, .ref (h 8), .ref (h 9), .ref (h 10), .ref (h 11), .ref (h 12), .ref (h 13), .ref (h 14), .ref (h 15), .int c.2.2.1, .long c.2.2.2.1, .int c.2.2.2.2.1, .int c.2.2.2.2.2.1, .ref (h 20), .ref (h 21), .int c.2.2.2.2.2.2.1, .ref (h 23), .ref (h 24), .int c.2.2.2.2.2.2.2.1, .ref (h 26), .ref (h 27), .int c.2.2.2.2.2.2.2.2.1, .int c.2.2.2.2.2.2.2.2.2])
def MEM (G : mG) (h : Nat → Nat) (n : Nat) (c : tC) (I : Nat → Nat → Int32) (J : Nat → Nat → Int64) (f : mF) : Prop :=
  f (h 0) = some (m0 h n c) ∧ (∀ k, k < 30 → rI k = true → f (h k) = some (.inl (gk G (tyM k), lenM k, .inl (I k)))) ∧ (∀ k, k < 30 → rJ k = true → f (h k) = some (.inl (gk G 1, lenM k, .inr (.inl (J k))))) ∧ injM h
theorem rI_M : ∀ k, k < 30 → rI k = true → rM k = true ∧ k ≠ 0 ∧ rJ k = false := by decide +kernel
theorem rJ_M : ∀ k, k < 30 → rJ k = true → rM k = true ∧ k ≠ 0 ∧ rI k = false := by decide +kernel
section ME
variable {G : mG} {h : Nat → Nat} {n : Nat} {c c2 : tC} {I : Nat → Nat → Int32} {J : Nat → Nat → Int64} {f f2 : mF}
theorem MEM.neI (hM : MEM G h n c I J f) {i k : Nat} (hi : i < 30) (hk : k < 30) (h1 : rM i = true) (h2 : rM k = true) (hne : i ≠ k) : h i ≠ h k := fun q => hne (hM.2.2.2 i k hi hk q h1 h2)
theorem MEM.setI (hM : MEM G h n c I J f) (k : Nat) (hk : k < 30) (hr : rI k = true) {g : Nat → Int32} (ef : f2 = va_up f (h k) (some (.inl (gk G (tyM k), lenM k, .inl g)))) : MEM G h n c (va_up I k g) J f2 := by
  subst ef
  have hm := rI_M k hk hr
  refine ⟨?_, fun q hq hqr => ?_, fun q hq hqr => ?_, hM.2.2.2⟩
  · rw [va_up_ne _ _ (hM.neI (by omega) hk rfl hm.1 (Ne.symm hm.2.1))]; exact hM.1
  · by_cases e : q = k
    · subst e; rw [va_up_self, va_up_self]
    · rw [va_up_ne _ _ (hM.neI hq hk (rI_M q hq hqr).1 hm.1 e), va_up_ne _ _ e]; exact hM.2.1 q hq hqr
  · have e : q ≠ k := fun e => by rw [e, hm.2.2] at hqr; cases hqr
    rw [va_up_ne _ _ (hM.neI hq hk (rJ_M q hq hqr).1 hm.1 e)]; exact hM.2.2.1 q hq hqr
theorem MEM.setJ (hM : MEM G h n c I J f) (k : Nat) (hk : k < 30) (hr : rJ k = true) {g : Nat → Int64} (ef : f2 = va_up f (h k) (some (.inl (gk G 1, lenM k, .inr (.inl g))))) : MEM G h n c I (va_up J k g) f2 := by
  subst ef
  have hm := rJ_M k hk hr
  refine ⟨?_, fun q hq hqr => ?_, fun q hq hqr => ?_, hM.2.2.2⟩
  · rw [va_up_ne _ _ (hM.neI (by omega) hk rfl hm.1 (Ne.symm hm.2.1))]; exact hM.1
  · have e : q ≠ k := fun e => by rw [e, hm.2.2] at hqr; cases hqr
    rw [va_up_ne _ _ (hM.neI hq hk (rI_M q hq hqr).1 hm.1 e)]; exact hM.2.1 q hq hqr
  · by_cases e : q = k
    · subst e; rw [va_up_self, va_up_self]
    · rw [va_up_ne _ _ (hM.neI hq hk (rJ_M q hq hqr).1 hm.1 e), va_up_ne _ _ e]; exact hM.2.2.1 q hq hqr
theorem MEM.set0 (hM : MEM G h n c I J f) {n2 : Nat} (ef : f2 = va_up f (h 0) (some (m0 h n2 c2))) : MEM G h n2 c2 I J f2 := by
  subst ef
  refine ⟨va_up_self _ _ _, fun q hq hqr => ?_, fun q hq hqr => ?_, hM.2.2.2⟩
  · rw [va_up_ne _ _ (hM.neI hq (by omega) (rI_M q hq hqr).1 rfl (rI_M q hq hqr).2.1)]; exact hM.2.1 q hq hqr
  · rw [va_up_ne _ _ (hM.neI hq (by omega) (rJ_M q hq hqr).1 rfl (rJ_M q hq hqr).2.1)]; exact hM.2.2.1 q hq hqr
end ME
/-! copies of blocks -/
theorem cpy_0 {α : Type} (f g : Nat → α) (a b : Nat) : va_cpy f g a b 0 = g := by
  funext k; unfold va_cpy; rw [if_neg (by omega)]
theorem cpy_at {α : Type} {f g : Nat → α} {a b n k : Nat} (h : k < n) : va_cpy f g a b n (b + k) = f (a + k) := by
  unfold va_cpy; rw [if_pos (by omega)]; congr 1; omega
theorem cpy_out {α : Type} {f g : Nat → α} {a b n k : Nat} (h : k < b ∨ b + n ≤ k) : va_cpy f g a b n k = g k := by
  unfold va_cpy; rw [if_neg (by omega)]
theorem cpyL_step {g : Nat → Int64} {a b k N : Nat} (hk : k < N) (hd : a + N ≤ b ∨ b + N ≤ a ∨ a = b) : vp_updL (va_cpy g g a b k) (b + k) (va_cpy g g a b k (a + k)) = va_cpy g g a b (k + 1) := by
  have e : va_cpy g g a b k (a + k) = g (a + k) := cpy_out (by omega)
  rw [e]
  funext x
  unfold vp_updL va_cpy
  by_cases hx : x = b + k
  · rw [if_pos hx, if_pos (by omega)]; congr 1; omega
  · rw [if_neg hx]
    by_cases h2 : b ≤ x ∧ x < b + k
    · rw [if_pos h2, if_pos (by omega)]
    · rw [if_neg h2, if_neg (by omega)]
theorem cpyI_step {g : Nat → Int32} {a b k N : Nat} (hk : k < N) (hd : a + N ≤ b ∨ b + N ≤ a ∨ a = b) : upd (va_cpy g g a b k) (b + k) (va_cpy g g a b k (a + k)) = va_cpy g g a b (k + 1) := by
  have e : va_cpy g g a b k (a + k) = g (a + k) := cpy_out (by omega)
  rw [e]
  funext x
  unfold upd va_cpy
  by_cases hx : x = b + k
  · rw [if_pos hx, if_pos (by omega)]; congr 1; omega
  · rw [if_neg hx]
    by_cases h2 : b ≤ x ∧ x < b + k
    · rw [if_pos h2, if_pos (by omega)]
    · rw [if_neg h2, if_neg (by omega)]
theorem cpy_cat {α : Type} {g : Nat → α} {a b k m N : Nat} (hk : k + m ≤ N) (hd : a + N ≤ b ∨ b + N ≤ a ∨ a = b) : va_cpy (va_cpy g g a b k) (va_cpy g g a b k) (a + k) (b + k) m = va_cpy g g a b (k + m) := by
  funext x
  by_cases h1 : b + k ≤ x ∧ x < b + k + m
  · have e1 : va_cpy (va_cpy g g a b k) (va_cpy g g a b k) (a + k) (b + k) m x = va_cpy g g a b k (a + k + (x - (b + k))) := by
      conv => lhs; unfold va_cpy
      rw [if_pos h1]
      rfl
    rw [e1, cpy_out (by omega)]
    unfold va_cpy
    rw [if_pos (by omega)]
    congr 1
    omega
  · rw [cpy_out (by omega)]
    unfold va_cpy
    by_cases h2 : b ≤ x ∧ x < b + k
    · rw [if_pos h2, if_pos (by omega)]
    · rw [if_neg h2, if_neg (by omega)]
theorem va_up_id {α : Type} (f : Nat → α) (k : Nat) : va_up f k (f k) = f := by
  funext x
  by_cases e : x = k
  · rw [e, va_up_self]
  · exact va_up_ne _ _ e
section ME2
variable {G : mG} {h : Nat → Nat} {n : Nat} {c : tC} {I : Nat → Nat → Int32} {J : Nat → Nat → Int64} {f : mF}
theorem MEM.idI (hM : MEM G h n c I J f) (k : Nat) : MEM G h n c (va_up I k (I k)) J f := by rw [va_up_id]; exact hM
theorem MEM.cp0 {a b a2 b2 : Nat} (hM : MEM G h n c I J f) : MEM G h n c (va_up (va_up I 4 (va_cpy (I 4) (I 4) a b 0)) 5 (va_cpy (I 5) (I 5) a2 b2 (8 * 0))) (va_up J 3 (va_cpy (J 3) (J 3) a b 0)) f := by
  rw [Nat.mul_zero, cpy_0, cpy_0, cpy_0, va_up_id, va_up_id, va_up_id]; exact hM
theorem up4 {α : Type} (I : Nat → α) (x y u v : α) : va_up (va_up (va_up (va_up I 4 x) 5 y) 4 u) 5 v = va_up (va_up I 4 u) 5 v := by
  funext k
  unfold va_up
  by_cases h5 : k = 5
  · simp only [if_pos h5]
  · by_cases h4 : k = 4
    · simp only [if_neg h5, if_pos h4]
    · simp only [if_neg h5, if_neg h4]
theorem MEM.cpA {a b k : Nat} (hk : k < 192) (hM : MEM G h n c (va_up (va_up (va_up (va_up I 4 (va_cpy (I 4) (I 4) (192 * a) (192 * b) k)) 5 (va_cpy (I 5) (I 5) (1536 * a) (1536 * b) (8 * k))) 4 (upd (va_cpy (I 4) (I 4) (192 * a) (192 * b) k) (192 * b + k) (va_cpy (I 4) (I 4) (192 * a) (192 * b) k (192 * a + k)))) 5 (va_cpy (va_cpy (I 5) (I 5) (1536 * a) (1536 * b) (8 * k)) (va_cpy (I 5) (I 5) (1536 * a) (1536 * b) (8 * k)) (8 * (192 * a + k)) (8 * (192 * b + k)) 8)) (va_up (va_up J 3 (va_cpy (J 3) (J 3) (192 * a) (192 * b) k)) 3 (vp_updL (va_cpy (J 3) (J 3) (192 * a) (192 * b) k) (192 * b + k) (va_cpy (J 3) (J 3) (192 * a) (192 * b) k (192 * a + k)))) f) :
    MEM G h n c (va_up (va_up I 4 (va_cpy (I 4) (I 4) (192 * a) (192 * b) (k + 1))) 5 (va_cpy (I 5) (I 5) (1536 * a) (1536 * b) (8 * (k + 1)))) (va_up J 3 (va_cpy (J 3) (J 3) (192 * a) (192 * b) (k + 1))) f := by
  rw [cpyI_step (N := 192) hk (by omega), cpyL_step (N := 192) hk (by omega), up4, bx_uu, show 8 * (192 * a + k) = 1536 * a + 8 * k by omega, show 8 * (192 * b + k) = 1536 * b + 8 * k by omega, cpy_cat (N := 1536) (by omega) (by omega), show 8 * k + 8 = 8 * (k + 1) by omega] at hM
  exact hM
end ME2
