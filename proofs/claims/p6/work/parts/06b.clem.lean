theorem ne_rho {rho : tR} {a b : Nat} {r s : Nat × Nat} (h1 : rho a = r) (h2 : rho b = s) (h : r ≠ s) : a ≠ b := fun q => h (by rw [← h1, ← h2, q])
theorem ic_and1 (x : Int32) : (x &&& 1).toInt = 0 ∨ (x &&& 1).toInt = 1 := by
  obtain ⟨j, hj, e⟩ := pk_andE x (m := 1) 1 (by decide)
  rw [e, nI_toInt (by omega)]
  omega
theorem pCl_put {n t : Nat} {g : Nat → Int64} {j : Nat} {v : Int64} (hp : pCl n t g) (h2 : sortF (8 * t + j) = 2 → v.toInt = -3 ∨ (0 ≤ v.toInt ∧ v.toInt < n)) (h3 : sortF (8 * t + j) = 3 → v.toInt ≤ 8) : pCl n t (vp_updL g j v) := by
  intro i hi
  unfold vp_updL
  split
  · rename_i hq; subst hq; exact ⟨h2, h3⟩
  · exact hp i hi
theorem IC.setTrX {G : mG} {k : Nat → Nat} {rho : tR} {n : Nat} {T z : Nat → Nat} {st : Nat → Bool} {f f2 : mF} (hI : IC G k rho n T z st f) {i c : Nat} {e : va_E} (hi : i < 3) (hc : c = 1 ∨ c = 3 ∨ c = 4) (ef : f2 = va_up f (k (5 + 8 * i + c)) (some e)) (he : okR G k rho n T st i c (some e)) (hX : xTr G k i f2) : IC G k rho n T z st f2 := by
  refine hI.setX (j := 5 + 8 * i + c) (by omega) ef (by rw [okC_R hi (by omega)]; exact he) (fun q hq => ?_) (fun q hq => ?_)
  · rw [ef]; exact (hI.2.2.1 q hq).other hI.2.2.2.2.1 hq (by omega) (by omega) (by omega)
  · by_cases hqi : q = i
    · subst hqi; exact hX
    · rw [ef]; exact (hI.2.2.2.1 q hq).other hI.2.2.2.2.1 hq (by omega) (by omega) (by omega) (by omega)
theorem IC.setTr {G : mG} {k : Nat → Nat} {rho : tR} {n : Nat} {T z : Nat → Nat} {st : Nat → Bool} {f f2 : mF} (hI : IC G k rho n T z st f) {i : Nat} {fs fs2 : List Value} (hi : i < 3) (e1 : f (k (5 + 8 * i + 1)) = some (.inr (4, fs))) (ef : f2 = va_up f (k (5 + 8 * i + 1)) (some (.inr (4, fs2)))) (hs : fs2[1]? = fs[1]?) (he : okTr k i (some (.inr (4, fs2)))) : IC G k rho n T z st f2 := by
  refine hI.setTrX hi (Or.inl rfl) ef he ?_
  intro gs ct r q a0 a1 a2 a3
  rw [ef, va_up_self] at a0
  cases a0
  rw [ef, va_up_ne _ _ (neC hI.2.2.2.2.1 (by omega) (by omega) (by omega))] at a2 a3
  exact hI.2.2.2.1 i hi fs ct r q e1 (by rw [← hs]; exact a1) a2 a3
def kpK (k : Nat → Nat) (f f2 : mF) : Prop := ∀ j, j < 41 → f2 (k j) = f (k j)
theorem upn {f f2 : mF} {a b : Nat} {e : Option va_E} (ef : f2 = va_up f a e) (hne : b ≠ a) : f2 b = f b := by rw [ef, va_up_ne _ _ hne]
