theorem rnS_end {T : Nat → Nat} {A : Nat → tA} {z m p c : Nat} {s : tS} (h : ¬ p < z) : rnS T A z m p c s = (0, 0, c, s) := by
  cases m with
  | zero => unfold rnS; rw [if_neg h]
  | succ m => unfold rnS; rw [if_neg h]
theorem rnS_7 {T : Nat → Nat} {A : Nat → tA} {z p c : Nat} {s : tS} (h : p < z) : rnS T A z 0 p c s = (7, p, c, s) := by unfold rnS; rw [if_pos h]
theorem rnS_t {T : Nat → Nat} {A : Nat → tA} {z m p c : Nat} {s : tS} (h : p < z) (h0 : (prf T (A p) s).1 ≠ 0) : rnS T A z (m + 1) p c s = ((prf T (A p) s).1, p, c + 1, (prf T (A p) s).2) := by
  conv => lhs; unfold rnS
  rw [if_pos h, if_neg h0]
theorem rnS_g {T : Nat → Nat} {A : Nat → tA} {z m p c : Nat} {s : tS} (h : p < z) (h0 : (prf T (A p) s).1 = 0) : rnS T A z (m + 1) p c s = rnS T A z m (nxt (A p) p s) (c + 1) (prf T (A p) s).2 := by
  conv => lhs; unfold rnS
  rw [if_pos h, if_pos h0]
theorem cqL_0 {c : Nat → Bool} {b : Nat → tB} {o : Int32} {v : Int64} : cqL c (s0C b o v) = c := by
  funext q
  show (c q || false) = c q
  cases c q <;> rfl
theorem feL_0 {fe : Int32} {c : Nat → Bool} {b : Nat → tB} {o : Int32} {v : Int64} : feL fe c (s0C b o v) = fe := by
  unfold feL
  rw [cnt_0 24 (fun q _ => by show (false && !c q) = false; rfl)]
  exact Int32.add_zero fe
noncomputable def rnC (T z : Nat → Nat) (A : Nat → tA) (bd : Nat → tB) (b : Nat) (o : Int32) (v : Int64) : Nat × Nat × Nat × tS := rnS T (fun q => A (32 * b + q)) (z b) 200 0 0 (s0C bd o v)
theorem rnC_gf {T z : Nat → Nat} {A : Nat → tA} {bd : Nat → tB} {b : Nat} {o : Int32} {v : Int64} (hz : z b ≤ 32) (hA : ∀ p, p < z b → okA (A (32 * b + p))) (h : (rnC T z A bd b o v).1 ≠ 0) : gfS (rnC T z A bd b o v).2.2.2 = 0 := rnS_gf (A := fun q => A (32 * b + q)) hz hA 200 0 0 _ rfl h
theorem tmS_nil {tms : Nat → Int32} {p : Nat → Bool} {m : Nat} (h : wls p m = []) : tmS tms p m = tms := by
  funext L
  unfold tmS
  rw [if_neg (fun q => by have := (wls_mem (p := p) (c := L) m).mpr q; rw [h] at this; exact absurd this List.not_mem_nil)]
