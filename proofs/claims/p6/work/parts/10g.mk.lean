theorem btC_00 : ∀ o, o < 24 → ¬ btC 0 o := by
  unfold btC
  decide +kernel
theorem beh6 (k : Nat → Nat) : ∀ b, b < 6 → (va_up (va_up (va_up (va_up (va_up (va_up (fun _ => none) (0 : Int32).toNatClampNeg (some (k 29))) (1 : Int32).toNatClampNeg (some (k 31))) (2 : Int32).toNatClampNeg (some (k 33))) (3 : Int32).toNatClampNeg (some (k 35))) (4 : Int32).toNatClampNeg (some (k 37))) (5 : Int32).toNatClampNeg (some (k 39))) b = some (k (29 + 2 * b)) := by
  intro b hb
  have hc : b = 0 ∨ b = 1 ∨ b = 2 ∨ b = 3 ∨ b = 4 ∨ b = 5 := by omega
  rcases hc with rfl | rfl | rfl | rfl | rfl | rfl <;> rfl
set_option maxHeartbeats 4000000 in
set_option maxRecDepth 100000 in
theorem IC.mk0 {G : mG} {k : Nat → Nat} {f : mF} (hj : injC k) (F0_ : f (k 0) = some (.inr (5, [.ref (k 1), .int 0, .int 0, .ref (k 2), .ref (k 5), .ref (k 13), .ref (k 21), .int 0, .int 0, .int 0, .ref (k 3), .int 0, .ref (k 4), .int (-1)]))) (F1_ : f (k 1) = some (.inl (gk G 3, 24, .inr (.inr (.inr (.inr (fun _ => none))))))) (F2_ : f (k 2) = some (.inl (gk G 4, 6, .inr (.inr (.inr (.inr (va_up (va_up (va_up (va_up (va_up (va_up (fun _ => none) (0 : Int32).toNatClampNeg (some (k 29))) (1 : Int32).toNatClampNeg (some (k 31))) (2 : Int32).toNatClampNeg (some (k 33))) (3 : Int32).toNatClampNeg (some (k 35))) (4 : Int32).toNatClampNeg (some (k 37))) (5 : Int32).toNatClampNeg (some (k 39))))))))) (F3_ : f (k 3) = some (.inl (gk G 0, 192, .inl (fun _ => 0)))) (F4_ : f (k 4) = some (.inl (gk G 0, 192, .inl (fun _ => 0)))) (F5_ : f (k 5) = some (.inr (3, [.ref (k 6), .int 0, .int 0, .long 0, .int 0, .int (-3), .null, .ref (k 10), .ref (k 11), .ref (k 12), .int 0]))) (F6_ : f (k 6) = some (.inr (4, [.ref (k 7), .int 0, .int 0, .ref (k 8), .ref (k 9)]))) (F7_ : f (k 7) = some (.inl (gk G 0, 384, .inl (fun _ => 0)))) (F8_ : f (k 8) = some (.inl (gk G 0, 24, .inl (fun _ => 0)))) (F9_ : f (k 9) = some (.inl (gk G 0, 24, .inl (fun _ => 0)))) (F10_ : f (k 10) = some (.inl (gk G 3, 24, .inr (.inr (.inr (.inr (fun _ => none))))))) (F11_ : f (k 11) = some (.inl (gk G 0, 4, .inl (fun _ => 0)))) (F12_ : f (k 12) = some (.inl (gk G 1, 4, .inr (.inl (fun _ => 0))))) (F13_ : f (k 13) = some (.inr (3, [.ref (k 14), .int 0, .int 0, .long 0, .int 0, .int (-3), .null, .ref (k 18), .ref (k 19), .ref (k 20), .int 0]))) (F14_ : f (k 14) = some (.inr (4, [.ref (k 15), .int 0, .int 0, .ref (k 16), .ref (k 17)]))) (F15_ : f (k 15) = some (.inl (gk G 0, 384, .inl (fun _ => 0)))) (F16_ : f (k 16) = some (.inl (gk G 0, 24, .inl (fun _ => 0)))) (F17_ : f (k 17) = some (.inl (gk G 0, 24, .inl (fun _ => 0)))) (F18_ : f (k 18) = some (.inl (gk G 3, 24, .inr (.inr (.inr (.inr (fun _ => none))))))) (F19_ : f (k 19) = some (.inl (gk G 0, 4, .inl (fun _ => 0)))) (F20_ : f (k 20) = some (.inl (gk G 1, 4, .inr (.inl (fun _ => 0))))) (F21_ : f (k 21) = some (.inr (3, [.ref (k 22), .int 0, .int 0, .long 0, .int 0, .int (-3), .null, .ref (k 26), .ref (k 27), .ref (k 28), .int 0]))) (F22_ : f (k 22) = some (.inr (4, [.ref (k 23), .int 0, .int 0, .ref (k 24), .ref (k 25)]))) (F23_ : f (k 23) = some (.inl (gk G 0, 384, .inl (fun _ => 0)))) (F24_ : f (k 24) = some (.inl (gk G 0, 24, .inl (fun _ => 0)))) (F25_ : f (k 25) = some (.inl (gk G 0, 24, .inl (fun _ => 0)))) (F26_ : f (k 26) = some (.inl (gk G 3, 24, .inr (.inr (.inr (.inr (fun _ => none))))))) (F27_ : f (k 27) = some (.inl (gk G 0, 4, .inl (fun _ => 0)))) (F28_ : f (k 28) = some (.inl (gk G 1, 4, .inr (.inl (fun _ => 0))))) (F29_ : f (k 29) = some (.inr (1, [.ref (k 30), .int 0]))) (F30_ : f (k 30) = some (.inl (gk G 5, 32, .inr (.inr (.inr (.inr (fun _ => none))))))) (F31_ : f (k 31) = some (.inr (1, [.ref (k 32), .int 0]))) (F32_ : f (k 32) = some (.inl (gk G 5, 32, .inr (.inr (.inr (.inr (fun _ => none))))))) (F33_ : f (k 33) = some (.inr (1, [.ref (k 34), .int 0]))) (F34_ : f (k 34) = some (.inl (gk G 5, 32, .inr (.inr (.inr (.inr (fun _ => none))))))) (F35_ : f (k 35) = some (.inr (1, [.ref (k 36), .int 0]))) (F36_ : f (k 36) = some (.inl (gk G 5, 32, .inr (.inr (.inr (.inr (fun _ => none))))))) (F37_ : f (k 37) = some (.inr (1, [.ref (k 38), .int 0]))) (F38_ : f (k 38) = some (.inl (gk G 5, 32, .inr (.inr (.inr (.inr (fun _ => none))))))) (F39_ : f (k 39) = some (.inr (1, [.ref (k 40), .int 0]))) (F40_ : f (k 40) = some (.inl (gk G 5, 32, .inr (.inr (.inr (.inr (fun _ => none))))))) : IC G k (fun _ => (0, 0)) 0 (fun _ => 0) (fun _ => 0) (fun _ => false) f := by
  have h0_ : okLS k 0 (f (k 0)) := ⟨_, _, _, _, _, _, F0_, by decide, by decide⟩
  have c0_ : okC G k (fun _ => (0, 0)) 0 (fun _ => 0) (fun _ => 0) (fun _ => false) 0 (f (k 0)) := h0_
  have h1_ : okQ G 3 24 (fun g => ∀ o, o < 0 → ∃ b, g o = some b ∧ (fun _ => (0, 0) : tR) b = (1, (fun _ => 0 : Nat → Nat) o)) (f (k 1)) := ⟨_, F1_, fun o ho => absurd ho (Nat.not_lt_zero _)⟩
  have c1_ : okC G k (fun _ => (0, 0)) 0 (fun _ => 0) (fun _ => 0) (fun _ => false) 1 (f (k 1)) := h1_
  have h2_ : okQ G 4 6 (fun g => ∀ b, b < 6 → g b = some (k (29 + 2 * b))) (f (k 2)) := ⟨_, F2_, beh6 k⟩
  have c2_ : okC G k (fun _ => (0, 0)) 0 (fun _ => 0) (fun _ => 0) (fun _ => false) 2 (f (k 2)) := h2_
  have c3_ : okC G k (fun _ => (0, 0)) 0 (fun _ => 0) (fun _ => 0) (fun _ => false) 3 (f (k 3)) := (by rw [okC_S (by decide) (by decide)]; exact ⟨_, F3_, trivial⟩)
  have c4_ : okC G k (fun _ => (0, 0)) 0 (fun _ => 0) (fun _ => 0) (fun _ => false) 4 (f (k 4)) := (by rw [okC_S (by decide) (by decide)]; exact ⟨_, F4_, trivial⟩)
  have c5_ : okC G k (fun _ => (0, 0)) 0 (fun _ => 0) (fun _ => 0) (fun _ => false) 5 (f (k 5)) := (by rw [show okC G k (fun _ => (0, 0)) 0 (fun _ => 0) (fun _ => 0) (fun _ => false) 5 (f (k 5)) = okR G k (fun _ => (0, 0)) 0 (fun _ => 0) (fun _ => false) 0 0 (f (k 5)) from okC_R (i := 0) (c := 0) (by decide) (by decide)]; exact ⟨0, 0, 0, 0, (-3), none, 0, F5_, Or.inl rfl, fun q_ => nomatch q_⟩)
  have c6_ : okC G k (fun _ => (0, 0)) 0 (fun _ => 0) (fun _ => 0) (fun _ => false) 6 (f (k 6)) := (by rw [show okC G k (fun _ => (0, 0)) 0 (fun _ => 0) (fun _ => 0) (fun _ => false) 6 (f (k 6)) = okR G k (fun _ => (0, 0)) 0 (fun _ => 0) (fun _ => false) 0 1 (f (k 6)) from okC_R (i := 0) (c := 1) (by decide) (by decide)]; exact ⟨0, 0, F6_, by decide, by decide⟩)
  have c7_ : okC G k (fun _ => (0, 0)) 0 (fun _ => 0) (fun _ => 0) (fun _ => false) 7 (f (k 7)) := (by rw [show okC G k (fun _ => (0, 0)) 0 (fun _ => 0) (fun _ => 0) (fun _ => false) 7 (f (k 7)) = okR G k (fun _ => (0, 0)) 0 (fun _ => 0) (fun _ => false) 0 2 (f (k 7)) from okC_R (i := 0) (c := 2) (by decide) (by decide)]; exact ⟨_, F7_, trivial⟩)
  have c8_ : okC G k (fun _ => (0, 0)) 0 (fun _ => 0) (fun _ => 0) (fun _ => false) 8 (f (k 8)) := (by rw [show okC G k (fun _ => (0, 0)) 0 (fun _ => 0) (fun _ => 0) (fun _ => false) 8 (f (k 8)) = okR G k (fun _ => (0, 0)) 0 (fun _ => 0) (fun _ => false) 0 3 (f (k 8)) from okC_R (i := 0) (c := 3) (by decide) (by decide)]; exact ⟨_, F8_, trivial⟩)
  have c9_ : okC G k (fun _ => (0, 0)) 0 (fun _ => 0) (fun _ => 0) (fun _ => false) 9 (f (k 9)) := (by rw [show okC G k (fun _ => (0, 0)) 0 (fun _ => 0) (fun _ => 0) (fun _ => false) 9 (f (k 9)) = okR G k (fun _ => (0, 0)) 0 (fun _ => 0) (fun _ => false) 0 4 (f (k 9)) from okC_R (i := 0) (c := 4) (by decide) (by decide)]; exact ⟨_, F9_, trivial⟩)
  have c10_ : okC G k (fun _ => (0, 0)) 0 (fun _ => 0) (fun _ => 0) (fun _ => false) 10 (f (k 10)) := (by rw [show okC G k (fun _ => (0, 0)) 0 (fun _ => 0) (fun _ => 0) (fun _ => false) 10 (f (k 10)) = okR G k (fun _ => (0, 0)) 0 (fun _ => 0) (fun _ => false) 0 5 (f (k 10)) from okC_R (i := 0) (c := 5) (by decide) (by decide)]; exact ⟨_, F10_, fun o ho => Or.inl rfl⟩)
  have c11_ : okC G k (fun _ => (0, 0)) 0 (fun _ => 0) (fun _ => 0) (fun _ => false) 11 (f (k 11)) := (by rw [show okC G k (fun _ => (0, 0)) 0 (fun _ => 0) (fun _ => 0) (fun _ => false) 11 (f (k 11)) = okR G k (fun _ => (0, 0)) 0 (fun _ => 0) (fun _ => false) 0 6 (f (k 11)) from okC_R (i := 0) (c := 6) (by decide) (by decide)]; exact ⟨_, F11_, fun q_ hq_ => Or.inr ⟨by decide, Or.inr ⟨rfl, by decide⟩⟩⟩)
  have c12_ : okC G k (fun _ => (0, 0)) 0 (fun _ => 0) (fun _ => 0) (fun _ => false) 12 (f (k 12)) := (by rw [show okC G k (fun _ => (0, 0)) 0 (fun _ => 0) (fun _ => 0) (fun _ => false) 12 (f (k 12)) = okR G k (fun _ => (0, 0)) 0 (fun _ => 0) (fun _ => false) 0 7 (f (k 12)) from okC_R (i := 0) (c := 7) (by decide) (by decide)]; exact ⟨_, F12_, trivial⟩)
  have c13_ : okC G k (fun _ => (0, 0)) 0 (fun _ => 0) (fun _ => 0) (fun _ => false) 13 (f (k 13)) := (by rw [show okC G k (fun _ => (0, 0)) 0 (fun _ => 0) (fun _ => 0) (fun _ => false) 13 (f (k 13)) = okR G k (fun _ => (0, 0)) 0 (fun _ => 0) (fun _ => false) 1 0 (f (k 13)) from okC_R (i := 1) (c := 0) (by decide) (by decide)]; exact ⟨0, 0, 0, 0, (-3), none, 0, F13_, Or.inl rfl, fun q_ => nomatch q_⟩)
  have c14_ : okC G k (fun _ => (0, 0)) 0 (fun _ => 0) (fun _ => 0) (fun _ => false) 14 (f (k 14)) := (by rw [show okC G k (fun _ => (0, 0)) 0 (fun _ => 0) (fun _ => 0) (fun _ => false) 14 (f (k 14)) = okR G k (fun _ => (0, 0)) 0 (fun _ => 0) (fun _ => false) 1 1 (f (k 14)) from okC_R (i := 1) (c := 1) (by decide) (by decide)]; exact ⟨0, 0, F14_, by decide, by decide⟩)
  have c15_ : okC G k (fun _ => (0, 0)) 0 (fun _ => 0) (fun _ => 0) (fun _ => false) 15 (f (k 15)) := (by rw [show okC G k (fun _ => (0, 0)) 0 (fun _ => 0) (fun _ => 0) (fun _ => false) 15 (f (k 15)) = okR G k (fun _ => (0, 0)) 0 (fun _ => 0) (fun _ => false) 1 2 (f (k 15)) from okC_R (i := 1) (c := 2) (by decide) (by decide)]; exact ⟨_, F15_, trivial⟩)
  have c16_ : okC G k (fun _ => (0, 0)) 0 (fun _ => 0) (fun _ => 0) (fun _ => false) 16 (f (k 16)) := (by rw [show okC G k (fun _ => (0, 0)) 0 (fun _ => 0) (fun _ => 0) (fun _ => false) 16 (f (k 16)) = okR G k (fun _ => (0, 0)) 0 (fun _ => 0) (fun _ => false) 1 3 (f (k 16)) from okC_R (i := 1) (c := 3) (by decide) (by decide)]; exact ⟨_, F16_, trivial⟩)
  have c17_ : okC G k (fun _ => (0, 0)) 0 (fun _ => 0) (fun _ => 0) (fun _ => false) 17 (f (k 17)) := (by rw [show okC G k (fun _ => (0, 0)) 0 (fun _ => 0) (fun _ => 0) (fun _ => false) 17 (f (k 17)) = okR G k (fun _ => (0, 0)) 0 (fun _ => 0) (fun _ => false) 1 4 (f (k 17)) from okC_R (i := 1) (c := 4) (by decide) (by decide)]; exact ⟨_, F17_, trivial⟩)
  have c18_ : okC G k (fun _ => (0, 0)) 0 (fun _ => 0) (fun _ => 0) (fun _ => false) 18 (f (k 18)) := (by rw [show okC G k (fun _ => (0, 0)) 0 (fun _ => 0) (fun _ => 0) (fun _ => false) 18 (f (k 18)) = okR G k (fun _ => (0, 0)) 0 (fun _ => 0) (fun _ => false) 1 5 (f (k 18)) from okC_R (i := 1) (c := 5) (by decide) (by decide)]; exact ⟨_, F18_, fun o ho => Or.inl rfl⟩)
  have c19_ : okC G k (fun _ => (0, 0)) 0 (fun _ => 0) (fun _ => 0) (fun _ => false) 19 (f (k 19)) := (by rw [show okC G k (fun _ => (0, 0)) 0 (fun _ => 0) (fun _ => 0) (fun _ => false) 19 (f (k 19)) = okR G k (fun _ => (0, 0)) 0 (fun _ => 0) (fun _ => false) 1 6 (f (k 19)) from okC_R (i := 1) (c := 6) (by decide) (by decide)]; exact ⟨_, F19_, fun q_ hq_ => Or.inr ⟨by decide, Or.inr ⟨rfl, by decide⟩⟩⟩)
  have c20_ : okC G k (fun _ => (0, 0)) 0 (fun _ => 0) (fun _ => 0) (fun _ => false) 20 (f (k 20)) := (by rw [show okC G k (fun _ => (0, 0)) 0 (fun _ => 0) (fun _ => 0) (fun _ => false) 20 (f (k 20)) = okR G k (fun _ => (0, 0)) 0 (fun _ => 0) (fun _ => false) 1 7 (f (k 20)) from okC_R (i := 1) (c := 7) (by decide) (by decide)]; exact ⟨_, F20_, trivial⟩)
  have c21_ : okC G k (fun _ => (0, 0)) 0 (fun _ => 0) (fun _ => 0) (fun _ => false) 21 (f (k 21)) := (by rw [show okC G k (fun _ => (0, 0)) 0 (fun _ => 0) (fun _ => 0) (fun _ => false) 21 (f (k 21)) = okR G k (fun _ => (0, 0)) 0 (fun _ => 0) (fun _ => false) 2 0 (f (k 21)) from okC_R (i := 2) (c := 0) (by decide) (by decide)]; exact ⟨0, 0, 0, 0, (-3), none, 0, F21_, Or.inl rfl, fun q_ => nomatch q_⟩)
  have c22_ : okC G k (fun _ => (0, 0)) 0 (fun _ => 0) (fun _ => 0) (fun _ => false) 22 (f (k 22)) := (by rw [show okC G k (fun _ => (0, 0)) 0 (fun _ => 0) (fun _ => 0) (fun _ => false) 22 (f (k 22)) = okR G k (fun _ => (0, 0)) 0 (fun _ => 0) (fun _ => false) 2 1 (f (k 22)) from okC_R (i := 2) (c := 1) (by decide) (by decide)]; exact ⟨0, 0, F22_, by decide, by decide⟩)
  have c23_ : okC G k (fun _ => (0, 0)) 0 (fun _ => 0) (fun _ => 0) (fun _ => false) 23 (f (k 23)) := (by rw [show okC G k (fun _ => (0, 0)) 0 (fun _ => 0) (fun _ => 0) (fun _ => false) 23 (f (k 23)) = okR G k (fun _ => (0, 0)) 0 (fun _ => 0) (fun _ => false) 2 2 (f (k 23)) from okC_R (i := 2) (c := 2) (by decide) (by decide)]; exact ⟨_, F23_, trivial⟩)
  have c24_ : okC G k (fun _ => (0, 0)) 0 (fun _ => 0) (fun _ => 0) (fun _ => false) 24 (f (k 24)) := (by rw [show okC G k (fun _ => (0, 0)) 0 (fun _ => 0) (fun _ => 0) (fun _ => false) 24 (f (k 24)) = okR G k (fun _ => (0, 0)) 0 (fun _ => 0) (fun _ => false) 2 3 (f (k 24)) from okC_R (i := 2) (c := 3) (by decide) (by decide)]; exact ⟨_, F24_, trivial⟩)
  have c25_ : okC G k (fun _ => (0, 0)) 0 (fun _ => 0) (fun _ => 0) (fun _ => false) 25 (f (k 25)) := (by rw [show okC G k (fun _ => (0, 0)) 0 (fun _ => 0) (fun _ => 0) (fun _ => false) 25 (f (k 25)) = okR G k (fun _ => (0, 0)) 0 (fun _ => 0) (fun _ => false) 2 4 (f (k 25)) from okC_R (i := 2) (c := 4) (by decide) (by decide)]; exact ⟨_, F25_, trivial⟩)
  have c26_ : okC G k (fun _ => (0, 0)) 0 (fun _ => 0) (fun _ => 0) (fun _ => false) 26 (f (k 26)) := (by rw [show okC G k (fun _ => (0, 0)) 0 (fun _ => 0) (fun _ => 0) (fun _ => false) 26 (f (k 26)) = okR G k (fun _ => (0, 0)) 0 (fun _ => 0) (fun _ => false) 2 5 (f (k 26)) from okC_R (i := 2) (c := 5) (by decide) (by decide)]; exact ⟨_, F26_, fun o ho => Or.inl rfl⟩)
  have c27_ : okC G k (fun _ => (0, 0)) 0 (fun _ => 0) (fun _ => 0) (fun _ => false) 27 (f (k 27)) := (by rw [show okC G k (fun _ => (0, 0)) 0 (fun _ => 0) (fun _ => 0) (fun _ => false) 27 (f (k 27)) = okR G k (fun _ => (0, 0)) 0 (fun _ => 0) (fun _ => false) 2 6 (f (k 27)) from okC_R (i := 2) (c := 6) (by decide) (by decide)]; exact ⟨_, F27_, fun q_ hq_ => Or.inr ⟨by decide, Or.inr ⟨rfl, by decide⟩⟩⟩)
  have c28_ : okC G k (fun _ => (0, 0)) 0 (fun _ => 0) (fun _ => 0) (fun _ => false) 28 (f (k 28)) := (by rw [show okC G k (fun _ => (0, 0)) 0 (fun _ => 0) (fun _ => 0) (fun _ => false) 28 (f (k 28)) = okR G k (fun _ => (0, 0)) 0 (fun _ => 0) (fun _ => false) 2 7 (f (k 28)) from okC_R (i := 2) (c := 7) (by decide) (by decide)]; exact ⟨_, F28_, trivial⟩)
  have c29_ : okC G k (fun _ => (0, 0)) 0 (fun _ => 0) (fun _ => 0) (fun _ => false) 29 (f (k 29)) := (by rw [show okC G k (fun _ => (0, 0)) 0 (fun _ => 0) (fun _ => 0) (fun _ => false) 29 (f (k 29)) = okBeh k (fun _ => 0) 0 (f (k 29)) from okC_B (b := 0)]; exact F29_)
  have c30_ : okC G k (fun _ => (0, 0)) 0 (fun _ => 0) (fun _ => 0) (fun _ => false) 30 (f (k 30)) := (by rw [show okC G k (fun _ => (0, 0)) 0 (fun _ => 0) (fun _ => 0) (fun _ => false) 30 (f (k 30)) = okQ G 5 32 (fun g => ∀ i, i < 32 → g i = none ∨ ∃ a, g i = some a ∧ (fun _ => (0, 0) : tR) a = (4, 0)) (f (k 30)) from okC_A (b := 0)]; exact ⟨_, F30_, fun q_ hq_ => Or.inl rfl⟩)
  have c31_ : okC G k (fun _ => (0, 0)) 0 (fun _ => 0) (fun _ => 0) (fun _ => false) 31 (f (k 31)) := (by rw [show okC G k (fun _ => (0, 0)) 0 (fun _ => 0) (fun _ => 0) (fun _ => false) 31 (f (k 31)) = okBeh k (fun _ => 0) 1 (f (k 31)) from okC_B (b := 1)]; exact F31_)
  have c32_ : okC G k (fun _ => (0, 0)) 0 (fun _ => 0) (fun _ => 0) (fun _ => false) 32 (f (k 32)) := (by rw [show okC G k (fun _ => (0, 0)) 0 (fun _ => 0) (fun _ => 0) (fun _ => false) 32 (f (k 32)) = okQ G 5 32 (fun g => ∀ i, i < 32 → g i = none ∨ ∃ a, g i = some a ∧ (fun _ => (0, 0) : tR) a = (4, 0)) (f (k 32)) from okC_A (b := 1)]; exact ⟨_, F32_, fun q_ hq_ => Or.inl rfl⟩)
  have c33_ : okC G k (fun _ => (0, 0)) 0 (fun _ => 0) (fun _ => 0) (fun _ => false) 33 (f (k 33)) := (by rw [show okC G k (fun _ => (0, 0)) 0 (fun _ => 0) (fun _ => 0) (fun _ => false) 33 (f (k 33)) = okBeh k (fun _ => 0) 2 (f (k 33)) from okC_B (b := 2)]; exact F33_)
  have c34_ : okC G k (fun _ => (0, 0)) 0 (fun _ => 0) (fun _ => 0) (fun _ => false) 34 (f (k 34)) := (by rw [show okC G k (fun _ => (0, 0)) 0 (fun _ => 0) (fun _ => 0) (fun _ => false) 34 (f (k 34)) = okQ G 5 32 (fun g => ∀ i, i < 32 → g i = none ∨ ∃ a, g i = some a ∧ (fun _ => (0, 0) : tR) a = (4, 0)) (f (k 34)) from okC_A (b := 2)]; exact ⟨_, F34_, fun q_ hq_ => Or.inl rfl⟩)
  have c35_ : okC G k (fun _ => (0, 0)) 0 (fun _ => 0) (fun _ => 0) (fun _ => false) 35 (f (k 35)) := (by rw [show okC G k (fun _ => (0, 0)) 0 (fun _ => 0) (fun _ => 0) (fun _ => false) 35 (f (k 35)) = okBeh k (fun _ => 0) 3 (f (k 35)) from okC_B (b := 3)]; exact F35_)
  have c36_ : okC G k (fun _ => (0, 0)) 0 (fun _ => 0) (fun _ => 0) (fun _ => false) 36 (f (k 36)) := (by rw [show okC G k (fun _ => (0, 0)) 0 (fun _ => 0) (fun _ => 0) (fun _ => false) 36 (f (k 36)) = okQ G 5 32 (fun g => ∀ i, i < 32 → g i = none ∨ ∃ a, g i = some a ∧ (fun _ => (0, 0) : tR) a = (4, 0)) (f (k 36)) from okC_A (b := 3)]; exact ⟨_, F36_, fun q_ hq_ => Or.inl rfl⟩)
  have c37_ : okC G k (fun _ => (0, 0)) 0 (fun _ => 0) (fun _ => 0) (fun _ => false) 37 (f (k 37)) := (by rw [show okC G k (fun _ => (0, 0)) 0 (fun _ => 0) (fun _ => 0) (fun _ => false) 37 (f (k 37)) = okBeh k (fun _ => 0) 4 (f (k 37)) from okC_B (b := 4)]; exact F37_)
  have c38_ : okC G k (fun _ => (0, 0)) 0 (fun _ => 0) (fun _ => 0) (fun _ => false) 38 (f (k 38)) := (by rw [show okC G k (fun _ => (0, 0)) 0 (fun _ => 0) (fun _ => 0) (fun _ => false) 38 (f (k 38)) = okQ G 5 32 (fun g => ∀ i, i < 32 → g i = none ∨ ∃ a, g i = some a ∧ (fun _ => (0, 0) : tR) a = (4, 0)) (f (k 38)) from okC_A (b := 4)]; exact ⟨_, F38_, fun q_ hq_ => Or.inl rfl⟩)
  have c39_ : okC G k (fun _ => (0, 0)) 0 (fun _ => 0) (fun _ => 0) (fun _ => false) 39 (f (k 39)) := (by rw [show okC G k (fun _ => (0, 0)) 0 (fun _ => 0) (fun _ => 0) (fun _ => false) 39 (f (k 39)) = okBeh k (fun _ => 0) 5 (f (k 39)) from okC_B (b := 5)]; exact F39_)
  have c40_ : okC G k (fun _ => (0, 0)) 0 (fun _ => 0) (fun _ => 0) (fun _ => false) 40 (f (k 40)) := (by rw [show okC G k (fun _ => (0, 0)) 0 (fun _ => 0) (fun _ => 0) (fun _ => false) 40 (f (k 40)) = okQ G 5 32 (fun g => ∀ i, i < 32 → g i = none ∨ ∃ a, g i = some a ∧ (fun _ => (0, 0) : tR) a = (4, 0)) (f (k 40)) from okC_A (b := 5)]; exact ⟨_, F40_, fun q_ hq_ => Or.inl rfl⟩)
  refine ⟨fun j hjj => ?_, fun a => trivial, fun i hi => ?_, fun i hi => ?_, hj, fun j _ => rfl, by decide, fun o => by show 0 < 3; decide, fun b => by show 0 ≤ 32; decide⟩
  · have hc : j = 0 ∨ j = 1 ∨ j = 2 ∨ j = 3 ∨ j = 4 ∨ j = 5 ∨ j = 6 ∨ j = 7 ∨ j = 8 ∨ j = 9 ∨ j = 10 ∨ j = 11 ∨ j = 12 ∨ j = 13 ∨ j = 14 ∨ j = 15 ∨ j = 16 ∨ j = 17 ∨ j = 18 ∨ j = 19 ∨ j = 20 ∨ j = 21 ∨ j = 22 ∨ j = 23 ∨ j = 24 ∨ j = 25 ∨ j = 26 ∨ j = 27 ∨ j = 28 ∨ j = 29 ∨ j = 30 ∨ j = 31 ∨ j = 32 ∨ j = 33 ∨ j = 34 ∨ j = 35 ∨ j = 36 ∨ j = 37 ∨ j = 38 ∨ j = 39 ∨ j = 40 := by omega
    rcases hc with rfl | rfl | rfl | rfl | rfl | rfl | rfl | rfl | rfl | rfl | rfl | rfl | rfl | rfl | rfl | rfl | rfl | rfl | rfl | rfl | rfl | rfl | rfl | rfl | rfl | rfl | rfl | rfl | rfl | rfl | rfl | rfl | rfl | rfl | rfl | rfl | rfl | rfl | rfl | rfl | rfl
    · exact c0_
    · exact c1_
    · exact c2_
    · exact c3_
    · exact c4_
    · exact c5_
    · exact c6_
    · exact c7_
    · exact c8_
    · exact c9_
    · exact c10_
    · exact c11_
    · exact c12_
    · exact c13_
    · exact c14_
    · exact c15_
    · exact c16_
    · exact c17_
    · exact c18_
    · exact c19_
    · exact c20_
    · exact c21_
    · exact c22_
    · exact c23_
    · exact c24_
    · exact c25_
    · exact c26_
    · exact c27_
    · exact c28_
    · exact c29_
    · exact c30_
    · exact c31_
    · exact c32_
    · exact c33_
    · exact c34_
    · exact c35_
    · exact c36_
    · exact c37_
    · exact c38_
    · exact c39_
    · exact c40_
  · have hc : i = 0 ∨ i = 1 ∨ i = 2 := by omega
    rcases hc with rfl | rfl | rfl
    · intro fs lb g e0 e1 e2 o ho hb
      have e0 : f (k 5) = some (.inr (3, fs)) := e0
      rw [F5_] at e0
      cases e0
      cases e1
      exact absurd hb (btC_00 o ho)
    · intro fs lb g e0 e1 e2 o ho hb
      have e0 : f (k 13) = some (.inr (3, fs)) := e0
      rw [F13_] at e0
      cases e0
      cases e1
      exact absurd hb (btC_00 o ho)
    · intro fs lb g e0 e1 e2 o ho hb
      have e0 : f (k 21) = some (.inr (3, fs)) := e0
      rw [F21_] at e0
      cases e0
      cases e1
      exact absurd hb (btC_00 o ho)
  · have hc : i = 0 ∨ i = 1 ∨ i = 2 := by omega
    rcases hc with rfl | rfl | rfl
    · intro fs ct r q e0 e1 e2 e3
      have e0 : f (k 6) = some (.inr (4, fs)) := e0
      rw [F6_] at e0
      cases e0
      cases e1
      have := kI_0
      omega
    · intro fs ct r q e0 e1 e2 e3
      have e0 : f (k 14) = some (.inr (4, fs)) := e0
      rw [F14_] at e0
      cases e0
      cases e1
      have := kI_0
      omega
    · intro fs ct r q e0 e1 e2 e3
      have e0 : f (k 22) = some (.inr (4, fs)) := e0
      rw [F22_] at e0
      cases e0
      cases e1
      have := kI_0
      omega
set_option maxHeartbeats 4000000 in
set_option maxRecDepth 100000 in
theorem IM.mk0 {G : mG} {h : Nat → Nat} {f : mF} (hj : injM h) (F0_ : f (h 0) = some (.inr (6, [.int 0, .ref (h 1), .int 0, .ref (h 3), .ref (h 4), .ref (h 5), .ref (h 6), .int 0, .ref (h 8), .ref (h 9), .ref (h 10), .ref (h 11), .ref (h 12), .ref (h 13), .ref (h 14), .ref (h 15), .int 0, .long 0, .int (-3), .int 0, .ref (h 20), .ref (h 21), .int 0, .ref (h 23), .ref (h 24), .int 0, .ref (h 26), .ref (h 27), .int 0, .int 0]))) (F1_ : f (h 1) = some (.inl (gk G 0, 24, .inl (fun _ => 0)))) (F3_ : f (h 3) = some (.inl (gk G 1, 8064, .inr (.inl (fun _ => 0))))) (F4_ : f (h 4) = some (.inl (gk G 0, 8064, .inl (fun _ => 0)))) (F5_ : f (h 5) = some (.inl (gk G 0, 64512, .inl (fun _ => 0)))) (F6_ : f (h 6) = some (.inl (gk G 2, 24, .inl (fun _ => 0)))) (F8_ : f (h 8) = some (.inl (gk G 0, 192, .inl (fun _ => 0)))) (F9_ : f (h 9) = some (.inl (gk G 0, 6, .inl (fun _ => 0)))) (F10_ : f (h 10) = some (.inl (gk G 0, 192, .inl (fun _ => 0)))) (F11_ : f (h 11) = some (.inl (gk G 0, 192, .inl (fun _ => 0)))) (F12_ : f (h 12) = some (.inl (gk G 1, 192, .inr (.inl (fun _ => 0))))) (F13_ : f (h 13) = some (.inl (gk G 0, 192, .inl (fun _ => 0)))) (F14_ : f (h 14) = some (.inl (gk G 0, 192, .inl (fun _ => 0)))) (F15_ : f (h 15) = some (.inl (gk G 0, 192, .inl (fun _ => 0)))) (F20_ : f (h 20) = some (.inl (gk G 0, 400, .inl (fun _ => 0)))) (F21_ : f (h 21) = some (.inl (gk G 0, 400, .inl (fun _ => 0)))) (F23_ : f (h 23) = some (.inl (gk G 0, 192, .inl (fun _ => 0)))) (F24_ : f (h 24) = some (.inl (gk G 2, 24, .inl (fun _ => 0)))) (F26_ : f (h 26) = some (.inl (gk G 0, 4, .inl (fun _ => 0)))) (F27_ : f (h 27) = some (.inl (gk G 1, 4, .inr (.inl (fun _ => 0))))) : IM G h 0 (fun _ => 0) (fun _ => 0) (fun _ => (0, 0, 0, 0, 0, 0)) f := by
  have v0 : ∀ k, ¬ vld (fun _ => 0) k := fun k hk => absurd hk.2 (Nat.not_lt_zero _)
  refine ⟨fun k hk => ?_, xTch_0 F0_ rfl, hj, by decide, fun b => by show 0 ≤ 32; decide, fun b _ p hp => absurd hp (Nat.not_lt_zero _)⟩
  cases hr : rM k with
  | false => exact okM_no k hk hr
  | true =>
    rcases rM_rest k hk hr with rfl | rfl | rfl | rfl | rfl | rfl | rfl | rfl | rfl | rfl | rfl | rfl | rfl | rfl | rfl | rfl | rfl | rfl | rfl | rfl
    · show okM0 h 0 _
      exact ⟨0, 0, 0, 0, (-3), 0, 0, 0, 0, 0, F0_, by decide, by decide, by decide, by decide, by decide, by decide, by decide, by decide⟩
    · show okI G 0 24 (fun g => ∀ o, o < 0 → g o = (fun _ => 0 : Nat → Int32) o) _
      exact ⟨_, F1_, fun o ho => absurd ho (Nat.not_lt_zero _)⟩
    · show okJ G 8064 (pNu 0 (fun _ => 0)) _
      exact ⟨_, F3_, fun L hL => ⟨fun _ => rfl, fun q => absurd q (Nat.not_lt_zero _)⟩⟩
    · show okI G 0 8064 (fun g => ∀ L, L < 8064 → (g L).toInt ≤ 8) _
      exact ⟨_, F4_, fun L hL => by decide⟩
    · show okI G 0 64512 (fun _ => True) _
      exact ⟨_, F5_, trivial⟩
    · show okI G 2 24 (fun _ => True) _
      exact ⟨_, F6_, trivial⟩
    · show okI G 0 192 (fun _ => True) _
      exact ⟨_, F8_, trivial⟩
    · show okI G 0 6 (fun g => ∀ b, b < 6 → g b = nI ((fun _ => 0 : Nat → Nat) b)) _
      exact ⟨_, F9_, fun b hb => rfl⟩
    · show okI G 0 192 (fun g => ∀ k, vld (fun _ => 0) k → g k = ((fun _ => (0, 0, 0, 0, 0, 0) : Nat → tA) k).1) _
      exact ⟨_, F10_, fun k hk => absurd hk (v0 k)⟩
    · show okI G 0 192 (fun g => ∀ k, vld (fun _ => 0) k → g k = ((fun _ => (0, 0, 0, 0, 0, 0) : Nat → tA) k).2.1) _
      exact ⟨_, F11_, fun k hk => absurd hk (v0 k)⟩
    · show okJ G 192 (fun g => ∀ k, vld (fun _ => 0) k → g k = ((fun _ => (0, 0, 0, 0, 0, 0) : Nat → tA) k).2.2.1) _
      exact ⟨_, F12_, fun k hk => absurd hk (v0 k)⟩
    · show okI G 0 192 (fun g => ∀ k, vld (fun _ => 0) k → g k = ((fun _ => (0, 0, 0, 0, 0, 0) : Nat → tA) k).2.2.2.1) _
      exact ⟨_, F13_, fun k hk => absurd hk (v0 k)⟩
    · show okI G 0 192 (fun g => ∀ k, vld (fun _ => 0) k → g k = ((fun _ => (0, 0, 0, 0, 0, 0) : Nat → tA) k).2.2.2.2.1) _
      exact ⟨_, F14_, fun k hk => absurd hk (v0 k)⟩
    · show okI G 0 192 (fun g => ∀ k, vld (fun _ => 0) k → g k = ((fun _ => (0, 0, 0, 0, 0, 0) : Nat → tA) k).2.2.2.2.2) _
      exact ⟨_, F15_, fun k hk => absurd hk (v0 k)⟩
    · show okI G 0 400 (fun _ => True) _
      exact ⟨_, F20_, trivial⟩
    · show okI G 0 400 (fun _ => True) _
      exact ⟨_, F21_, trivial⟩
    · show okI G 0 192 (fun _ => True) _
      exact ⟨_, F23_, trivial⟩
    · show okI G 2 24 (fun _ => True) _
      exact ⟨_, F24_, trivial⟩
    · show okI G 0 4 (fun g => ∀ i, i < 4 → -3 ≤ (g i).toInt ∧ ((g i).toInt < (0 : Nat) ∨ ((0 : Nat) = 0 ∧ (g i).toInt = 0))) _
      exact ⟨_, F26_, fun i hi => ⟨by decide, Or.inr ⟨rfl, by decide⟩⟩⟩
    · show okJ G 4 (fun _ => True) _
      exact ⟨_, F27_, trivial⟩
