theorem nv_lt {G : mG} {k : Nat → Nat} {rho : tR} {n : Nat} {T z : Nat → Nat} {st : Nat → Bool} {f fc : mF} {g : Nat → Option Nat} {o b q : Nat} (hI : IC G k rho n T z st f) (hk : fc (k 1) = f (k 1)) (hg : fc (k 1) = some (.inl (gk G 3, 24, .inr (.inr (.inr (.inr g)))))) (h1 : g o = some b) (ho : o < n) (hlt : ∀ (a : Nat) (e : va_E), f a = some e → a < q) : b < q := by
  obtain ⟨g2, e2, hp⟩ := hI.objs
  rw [hg, e2] at hk
  cases hk
  obtain ⟨b2, q1, q2⟩ := hp o ho
  rw [h1] at q1
  cases q1
  obtain ⟨_, _, _, _, F, -⟩ : okB rho (T o) b (f b) := hI.pool q2
  exact hlt b _ F
theorem objs_put {rho : tR} {n : Nat} {T : Nat → Nat} {g : Nat → Option Nat} {o b : Nat} (hp : ∀ o, o < n → ∃ b, g o = some b ∧ rho b = (1, T o)) (hb : rho b = (1, T o)) : ∀ q, q < n → ∃ b2, va_up g o (some b) q = some b2 ∧ rho b2 = (1, T q) := by
  intro q hq
  by_cases hqo : q = o
  · subst hqo; rw [va_up_self]; exact ⟨b, rfl, hb⟩
  · rw [va_up_ne _ _ hqo]; exact hp q hq
