theorem nd_nul_m {g : Nat → Option Nat} {o : Nat} (h : g o = none) : ∀ m, o < m → 1 ≤ nul g m
  | 0, h1 => by omega
  | m + 1, h1 => by
    show 1 ≤ nul g m + (if g m = none then 1 else 0)
    by_cases ho : o = m
    · subst ho; rw [if_pos h]; omega
    · have := nd_nul_m h m (by omega)
      omega
theorem nd_nul {k : Nat → Nat} {i o : Nat} {f : mF} (ho : o < 24) : nd k i f o ≤ nul (cpF k i f) 24 := by
  unfold nd
  split
  · exact nd_nul_m ‹_› 24 ho
  · omega
def stUp (st : Nat → Bool) (i : Nat) : Nat → Bool := fun q => if q = i then true else st q
theorem xLd_keep {G : mG} {k : Nat → Nat} {rho : tR} {n : Nat} {T z : Nat → Nat} {st : Nat → Bool} {f f2 : mF} (hI : IC G k rho n T z st f) {i : Nat} {fs fs2 : List Value} (hi : i < 3) (e1 : f (k (5 + 8 * i)) = some (.inr (3, fs))) (ef : f2 = va_up f (k (5 + 8 * i)) (some (.inr (3, fs2)))) (hs : fs2[1]? = fs[1]?) : xLd G k i f2 := by
  intro gs lb g a0 a1 a2
  rw [ef, va_up_self] at a0
  cases a0
  rw [ef, va_up_ne _ _ (neC hI.2.2.2.2.1 (by omega) (by omega) (by omega))] at a2
  exact hI.2.2.1 i hi fs lb g e1 (by rw [← hs]; exact a1) a2
