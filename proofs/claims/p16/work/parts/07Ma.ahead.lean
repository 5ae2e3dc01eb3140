def ldU : Nat → tS → tS
  | 0, s => s
  | m + 1, s => sLd (ldU m s) m
theorem ldU_nlm {a : Nat} {s : tS} : ∀ (d : Nat), a + d ≤ 24 → nld (ldU a s) ≤ nld (ldU (a + d) s)
  | 0, _ => Nat.le_refl _
  | d + 1, h => by
    have e : nld (sLd (ldU (a + d) s) (a + d)) = nld (ldU (a + d) s) + ldn (ldU (a + d) s) (a + d) := nld_l (by omega)
    have i := ldU_nlm (a := a) (s := s) d (by omega)
    show _ ≤ nld (sLd (ldU (a + d) s) (a + d))
    omega
theorem ldU_le {a b : Nat} {s : tS} (h : a ≤ b) (hb : b ≤ 24) : nld (ldU a s) ≤ nld (ldU b s) := by
  have := ldU_nlm (a := a) (s := s) (b - a) (by omega)
  rwa [show a + (b - a) = b from by omega] at this
