/-! the start -/
def injC (k : Nat → Nat) : Prop := ∀ i j, i < 41 → j < 41 → k i = k j → i = j
def ownK (k : Nat → Nat) : tR := fun a => match (List.range 41).find? (fun j => decide (k j = a)) with
  | some j => (1, j)
  | none => (0, 0)
theorem ownK_at {k : Nat → Nat} (hj : injC k) {j : Nat} (h : j < 41) : ownK k (k j) = (1, j) := by
  unfold ownK
  cases hf : (List.range 41).find? (fun i => decide (k i = k j)) with
  | none =>
    have := List.find?_eq_none.mp hf j (List.mem_range.mpr h)
    simp at this
  | some i =>
    have h1 := List.find?_some hf
    have h2 := List.mem_of_find?_eq_some hf
    have e : i = j := hj i j (List.mem_range.mp h2) h (of_decide_eq_true h1)
    rw [e]
theorem ownK_no {k : Nat → Nat} {a : Nat} (h : ∀ j, j < 41 → k j ≠ a) : ownK k a = (0, 0) := by
  unfold ownK
  cases hf : (List.range 41).find? (fun i => decide (k i = a)) with
  | none => rfl
  | some i =>
    have h1 := List.find?_some hf
    have h2 := List.mem_of_find?_eq_some hf
    exact absurd (of_decide_eq_true h1) (h i (List.mem_range.mp h2))
theorem beh6 (k : Nat → Nat) : ∀ b, b < 6 → (va_up (va_up (va_up (va_up (va_up (va_up (fun _ => none) (0 : Int32).toNatClampNeg (some (k 29))) (1 : Int32).toNatClampNeg (some (k 31))) (2 : Int32).toNatClampNeg (some (k 33))) (3 : Int32).toNatClampNeg (some (k 35))) (4 : Int32).toNatClampNeg (some (k 37))) (5 : Int32).toNatClampNeg (some (k 39))) b = some (k (29 + 2 * b)) := by
  intro b hb
  have hc : b = 0 ∨ b = 1 ∨ b = 2 ∨ b = 3 ∨ b = 4 ∨ b = 5 := by omega
  rcases hc with rfl | rfl | rfl | rfl | rfl | rfl <;> rfl
def D00 (k : Nat → Nat) : tD := (fun _ => none, fun _ => none, (0, 0, 0, 0, 0, -1), fun _ => (0, 0, 0, 0, -3, none, 0), fun _ => (0, 0), fun _ _ => 0, fun _ _ => 0, va_up (fun _ _ => none) 2 (va_up (va_up (va_up (va_up (va_up (va_up (fun _ => none) (0 : Int32).toNatClampNeg (some (k 29))) (1 : Int32).toNatClampNeg (some (k 31))) (2 : Int32).toNatClampNeg (some (k 33))) (3 : Int32).toNatClampNeg (some (k 35))) (4 : Int32).toNatClampNeg (some (k 37))) (5 : Int32).toNatClampNeg (some (k 39))))
set_option maxHeartbeats 4000000 in
set_option maxRecDepth 100000 in
theorem CM.mk0 {G : mG} {k : Nat → Nat} {f : mF} (hj : injC k) (F0_ : f (k 0) = some (.inr (5, [.ref (k 1), .int 0, .int 0, .ref (k 2), .ref (k 5), .ref (k 13), .ref (k 21), .int 0, .int 0, .int 0, .ref (k 3), .int 0, .ref (k 4), .int (-1)]))) (F1_ : f (k 1) = some (.inl (gk G 3, 24, .inr (.inr (.inr (.inr (fun _ => none))))))) (F2_ : f (k 2) = some (.inl (gk G 4, 6, .inr (.inr (.inr (.inr (va_up (va_up (va_up (va_up (va_up (va_up (fun _ => none) (0 : Int32).toNatClampNeg (some (k 29))) (1 : Int32).toNatClampNeg (some (k 31))) (2 : Int32).toNatClampNeg (some (k 33))) (3 : Int32).toNatClampNeg (some (k 35))) (4 : Int32).toNatClampNeg (some (k 37))) (5 : Int32).toNatClampNeg (some (k 39))))))))) (F3_ : f (k 3) = some (.inl (gk G 0, 192, .inl (fun _ => 0)))) (F4_ : f (k 4) = some (.inl (gk G 0, 192, .inl (fun _ => 0)))) (F5_ : f (k 5) = some (.inr (3, [.ref (k 6), .int 0, .int 0, .long 0, .int 0, .int (-3), .null, .ref (k 10), .ref (k 11), .ref (k 12), .int 0]))) (F6_ : f (k 6) = some (.inr (4, [.ref (k 7), .int 0, .int 0, .ref (k 8), .ref (k 9)]))) (F7_ : f (k 7) = some (.inl (gk G 0, 384, .inl (fun _ => 0)))) (F8_ : f (k 8) = some (.inl (gk G 0, 24, .inl (fun _ => 0)))) (F9_ : f (k 9) = some (.inl (gk G 0, 24, .inl (fun _ => 0)))) (F10_ : f (k 10) = some (.inl (gk G 3, 24, .inr (.inr (.inr (.inr (fun _ => none))))))) (F11_ : f (k 11) = some (.inl (gk G 0, 4, .inl (fun _ => 0)))) (F12_ : f (k 12) = some (.inl (gk G 1, 4, .inr (.inl (fun _ => 0))))) (F13_ : f (k 13) = some (.inr (3, [.ref (k 14), .int 0, .int 0, .long 0, .int 0, .int (-3), .null, .ref (k 18), .ref (k 19), .ref (k 20), .int 0]))) (F14_ : f (k 14) = some (.inr (4, [.ref (k 15), .int 0, .int 0, .ref (k 16), .ref (k 17)]))) (F15_ : f (k 15) = some (.inl (gk G 0, 384, .inl (fun _ => 0)))) (F16_ : f (k 16) = some (.inl (gk G 0, 24, .inl (fun _ => 0)))) (F17_ : f (k 17) = some (.inl (gk G 0, 24, .inl (fun _ => 0)))) (F18_ : f (k 18) = some (.inl (gk G 3, 24, .inr (.inr (.inr (.inr (fun _ => none))))))) (F19_ : f (k 19) = some (.inl (gk G 0, 4, .inl (fun _ => 0)))) (F20_ : f (k 20) = some (.inl (gk G 1, 4, .inr (.inl (fun _ => 0))))) (F21_ : f (k 21) = some (.inr (3, [.ref (k 22), .int 0, .int 0, .long 0, .int 0, .int (-3), .null, .ref (k 26), .ref (k 27), .ref (k 28), .int 0]))) (F22_ : f (k 22) = some (.inr (4, [.ref (k 23), .int 0, .int 0, .ref (k 24), .ref (k 25)]))) (F23_ : f (k 23) = some (.inl (gk G 0, 384, .inl (fun _ => 0)))) (F24_ : f (k 24) = some (.inl (gk G 0, 24, .inl (fun _ => 0)))) (F25_ : f (k 25) = some (.inl (gk G 0, 24, .inl (fun _ => 0)))) (F26_ : f (k 26) = some (.inl (gk G 3, 24, .inr (.inr (.inr (.inr (fun _ => none))))))) (F27_ : f (k 27) = some (.inl (gk G 0, 4, .inl (fun _ => 0)))) (F28_ : f (k 28) = some (.inl (gk G 1, 4, .inr (.inl (fun _ => 0))))) (F29_ : f (k 29) = some (.inr (1, [.ref (k 30), .int 0]))) (F30_ : f (k 30) = some (.inl (gk G 5, 32, .inr (.inr (.inr (.inr (fun _ => none))))))) (F31_ : f (k 31) = some (.inr (1, [.ref (k 32), .int 0]))) (F32_ : f (k 32) = some (.inl (gk G 5, 32, .inr (.inr (.inr (.inr (fun _ => none))))))) (F33_ : f (k 33) = some (.inr (1, [.ref (k 34), .int 0]))) (F34_ : f (k 34) = some (.inl (gk G 5, 32, .inr (.inr (.inr (.inr (fun _ => none))))))) (F35_ : f (k 35) = some (.inr (1, [.ref (k 36), .int 0]))) (F36_ : f (k 36) = some (.inl (gk G 5, 32, .inr (.inr (.inr (.inr (fun _ => none))))))) (F37_ : f (k 37) = some (.inr (1, [.ref (k 38), .int 0]))) (F38_ : f (k 38) = some (.inl (gk G 5, 32, .inr (.inr (.inr (.inr (fun _ => none))))))) (F39_ : f (k 39) = some (.inr (1, [.ref (k 40), .int 0]))) (F40_ : f (k 40) = some (.inl (gk G 5, 32, .inr (.inr (.inr (.inr (fun _ => none))))))) : CM G k (ownK k) 0 (fun _ => 0) (D00 k) f := by
  have nB : ∀ a b, BD (D00 k) a = some b → False := fun a b h => by have h : (none : Option tBo) = some b := h; cases h
  have nA : ∀ a t, AD (D00 k) a = some t → False := fun a t h => by have h : (none : Option tA) = some t := h; cases h
  refine ⟨F0_, F1_, F2_, F3_, F4_, fun i hi => ?_, fun i hi => ?_, fun i hi => ?_, fun i hi => ?_, fun i hi => ?_, fun i hi => ?_, fun i hi => ?_, fun i hi => ?_, fun b hb => ?_, fun b hb => ?_, fun a b hb => (nB a b hb).elim, fun a b hb => (nB a b hb).elim, fun a b hb => (nB a b hb).elim, fun a t ht => (nA a t ht).elim, fun j hj2 => ownK_at hj hj2, fun a b hb => (nB a b hb).elim, fun a t ht => (nA a t ht).elim, fun b hb => ?_⟩
  · have hc : i = 0 ∨ i = 1 ∨ i = 2 := by omega
    rcases hc with rfl | rfl | rfl
    · exact F5_
    · exact F13_
    · exact F21_
  · have hc : i = 0 ∨ i = 1 ∨ i = 2 := by omega
    rcases hc with rfl | rfl | rfl
    · exact F6_
    · exact F14_
    · exact F22_
  · have hc : i = 0 ∨ i = 1 ∨ i = 2 := by omega
    rcases hc with rfl | rfl | rfl
    · exact F7_
    · exact F15_
    · exact F23_
  · have hc : i = 0 ∨ i = 1 ∨ i = 2 := by omega
    rcases hc with rfl | rfl | rfl
    · exact F8_
    · exact F16_
    · exact F24_
  · have hc : i = 0 ∨ i = 1 ∨ i = 2 := by omega
    rcases hc with rfl | rfl | rfl
    · exact F9_
    · exact F17_
    · exact F25_
  · have hc : i = 0 ∨ i = 1 ∨ i = 2 := by omega
    rcases hc with rfl | rfl | rfl
    · exact F10_
    · exact F18_
    · exact F26_
  · have hc : i = 0 ∨ i = 1 ∨ i = 2 := by omega
    rcases hc with rfl | rfl | rfl
    · exact F11_
    · exact F19_
    · exact F27_
  · have hc : i = 0 ∨ i = 1 ∨ i = 2 := by omega
    rcases hc with rfl | rfl | rfl
    · exact F12_
    · exact F20_
    · exact F28_
  · have hc : b = 0 ∨ b = 1 ∨ b = 2 ∨ b = 3 ∨ b = 4 ∨ b = 5 := by omega
    rcases hc with rfl | rfl | rfl | rfl | rfl | rfl
    · exact F29_
    · exact F31_
    · exact F33_
    · exact F35_
    · exact F37_
    · exact F39_
  · have hc : b = 0 ∨ b = 1 ∨ b = 2 ∨ b = 3 ∨ b = 4 ∨ b = 5 := by omega
    rcases hc with rfl | rfl | rfl | rfl | rfl | rfl
    · exact F30_
    · exact F32_
    · exact F34_
    · exact F36_
    · exact F38_
    · exact F40_
  · exact beh6 k b hb
theorem GC.mk0 {k : Nat → Nat} : GC 0 (fun _ => 0) (fun _ => 0) (fun _ => (0, 0, 0, 0, 0, 0)) 0 (fun _ _ => (fun _ => 0, fun _ => 0)) (fun _ => false) 0 (fun _ => 0) 0 [] (-3) 0 0 (-1) (fun _ => false) [] 0 (D00 k) := by
  refine ⟨⟨by omega, fun o => by show 0 < 3; omega⟩, by omega, fun b => by show 0 ≤ 32; omega, ⟨0, rfl, fun o _ => bt_zero⟩, ⟨Nat.zero_le _, fun i hi => absurd hi (Nat.not_lt_zero i)⟩, fun L _ => rfl, fun b _ p hp => absurd hp (Nat.not_lt_zero p), fun o ho => absurd ho (Nat.not_lt_zero o), ⟨⟨0, none, 0, rfl, fun o _ => bt_zero⟩, TRC.nil (fun _ _ => rfl) (fun _ _ => rfl), fun _ _ => rfl⟩, fun i hi => ⟨fun o _ => Or.inl ?_, [], TRC.nil (fun _ _ => rfl) (fun _ _ => rfl)⟩⟩
  have e := congrFun (QD_n (D := D00 k) (j := 2) (x := 5 + 8 * i + 5) (g := QD (D00 k) 2) (by omega)) o
  have e2 : QD (dQ (D00 k) 2 (QD (D00 k) 2)) (5 + 8 * i + 5) o = none := by
    have hc : i = 0 ∨ i = 1 ∨ i = 2 := by omega
    rcases hc with rfl | rfl | rfl <;> rfl
  exact e.symm.trans e2
theorem CM.some {G : mG} {k : Nat → Nat} {own : tR} {n : Nat} {z : Nat → Nat} {D : tD} {f : mF} (h : CM G k own n z D f) {j : Nat} (hj : j < 41) : ∃ e, f (k j) = some e := by
  by_cases q5 : j < 5
  · have : j = 0 ∨ j = 1 ∨ j = 2 ∨ j = 3 ∨ j = 4 := by omega
    rcases this with rfl | rfl | rfl | rfl | rfl
    · exact ⟨_, h.c0⟩
    · exact ⟨_, h.c1⟩
    · exact ⟨_, h.c2⟩
    · exact ⟨_, h.c3⟩
    · exact ⟨_, h.c4⟩
  · by_cases q29 : j < 29
    · obtain ⟨i, hi, c, hc, rfl⟩ : ∃ i, i < 3 ∧ ∃ c, c < 8 ∧ j = 5 + 8 * i + c := ⟨(j - 5) / 8, by omega, (j - 5) % 8, by omega, by omega⟩
      have : c = 0 ∨ c = 1 ∨ c = 2 ∨ c = 3 ∨ c = 4 ∨ c = 5 ∨ c = 6 ∨ c = 7 := by omega
      rcases this with rfl | rfl | rfl | rfl | rfl | rfl | rfl | rfl
      · exact ⟨_, h.r0 i hi⟩
      · exact ⟨_, h.r1 i hi⟩
      · exact ⟨_, h.r2 i hi⟩
      · exact ⟨_, h.r3 i hi⟩
      · exact ⟨_, h.r4 i hi⟩
      · exact ⟨_, h.r5 i hi⟩
      · exact ⟨_, h.r6 i hi⟩
      · exact ⟨_, h.r7 i hi⟩
    · obtain ⟨b, hb, c, hc, rfl⟩ : ∃ b, b < 6 ∧ ∃ c, c < 2 ∧ j = 29 + 2 * b + c := ⟨(j - 29) / 2, by omega, (j - 29) % 2, by omega, by omega⟩
      have : c = 0 ∨ c = 1 := by omega
      rcases this with rfl | rfl
      · exact ⟨_, h.b0 b hb⟩
      · exact ⟨_, h.b1 b hb⟩
set_option maxHeartbeats 4000000 in
set_option maxRecDepth 100000 in
theorem rI_r : ∀ k, k < 30 → rI k = true → k = 1 ∨ k = 4 ∨ k = 5 ∨ k = 6 ∨ k = 8 ∨ k = 9 ∨ k = 10 ∨ k = 11 ∨ k = 13 ∨ k = 14 ∨ k = 15 ∨ k = 20 ∨ k = 21 ∨ k = 23 ∨ k = 24 ∨ k = 26 := by
  intro k hk hr
  have hc : k = 0 ∨ k = 1 ∨ k = 2 ∨ k = 3 ∨ k = 4 ∨ k = 5 ∨ k = 6 ∨ k = 7 ∨ k = 8 ∨ k = 9 ∨ k = 10 ∨ k = 11 ∨ k = 12 ∨ k = 13 ∨ k = 14 ∨ k = 15 ∨ k = 16 ∨ k = 17 ∨ k = 18 ∨ k = 19 ∨ k = 20 ∨ k = 21 ∨ k = 22 ∨ k = 23 ∨ k = 24 ∨ k = 25 ∨ k = 26 ∨ k = 27 ∨ k = 28 ∨ k = 29 := by omega
  rcases hc with rfl | rfl | rfl | rfl | rfl | rfl | rfl | rfl | rfl | rfl | rfl | rfl | rfl | rfl | rfl | rfl | rfl | rfl | rfl | rfl | rfl | rfl | rfl | rfl | rfl | rfl | rfl | rfl | rfl | rfl <;> first | (exact absurd hr (by decide)) | omega
theorem rJ_r : ∀ k, k < 30 → rJ k = true → k = 3 ∨ k = 12 ∨ k = 27 := by decide +kernel
def s00 : tS := (fun _ => (fun _ => 0, fun _ => 0), fun _ => false, fun _ => -3, fun _ => 0, [], 0)
set_option maxHeartbeats 4000000 in
set_option maxRecDepth 100000 in
theorem FM.mk0 {G : mG} {h : Nat → Nat} {f : mF} (hj : injM h) (F0_ : f (h 0) = some (.inr (6, [.int 0, .ref (h 1), .int 0, .ref (h 3), .ref (h 4), .ref (h 5), .ref (h 6), .int 0, .ref (h 8), .ref (h 9), .ref (h 10), .ref (h 11), .ref (h 12), .ref (h 13), .ref (h 14), .ref (h 15), .int 0, .long 0, .int (-3), .int 0, .ref (h 20), .ref (h 21), .int 0, .ref (h 23), .ref (h 24), .int 0, .ref (h 26), .ref (h 27), .int 0, .int 0]))) (F1_ : f (h 1) = some (.inl (gk G 0, 24, .inl (fun _ => 0)))) (F3_ : f (h 3) = some (.inl (gk G 1, 8064, .inr (.inl (fun _ => 0))))) (F4_ : f (h 4) = some (.inl (gk G 0, 8064, .inl (fun _ => 0)))) (F5_ : f (h 5) = some (.inl (gk G 0, 64512, .inl (fun _ => 0)))) (F6_ : f (h 6) = some (.inl (gk G 2, 24, .inl (fun _ => 0)))) (F8_ : f (h 8) = some (.inl (gk G 0, 192, .inl (fun _ => 0)))) (F9_ : f (h 9) = some (.inl (gk G 0, 6, .inl (fun _ => 0)))) (F10_ : f (h 10) = some (.inl (gk G 0, 192, .inl (fun _ => 0)))) (F11_ : f (h 11) = some (.inl (gk G 0, 192, .inl (fun _ => 0)))) (F12_ : f (h 12) = some (.inl (gk G 1, 192, .inr (.inl (fun _ => 0))))) (F13_ : f (h 13) = some (.inl (gk G 0, 192, .inl (fun _ => 0)))) (F14_ : f (h 14) = some (.inl (gk G 0, 192, .inl (fun _ => 0)))) (F15_ : f (h 15) = some (.inl (gk G 0, 192, .inl (fun _ => 0)))) (F20_ : f (h 20) = some (.inl (gk G 0, 400, .inl (fun _ => 0)))) (F21_ : f (h 21) = some (.inl (gk G 0, 400, .inl (fun _ => 0)))) (F23_ : f (h 23) = some (.inl (gk G 0, 192, .inl (fun _ => 0)))) (F24_ : f (h 24) = some (.inl (gk G 2, 24, .inl (fun _ => 0)))) (F26_ : f (h 26) = some (.inl (gk G 0, 4, .inl (fun _ => 0)))) (F27_ : f (h 27) = some (.inl (gk G 1, 4, .inr (.inl (fun _ => 0))))) : FM G h 0 (fun _ => 0) (fun _ => 0) (fun _ => (0, 0, 0, 0, 0, 0)) 0 (fun _ _ => (fun _ => 0, fun _ => 0)) (fun _ => false) 0 (fun _ => 0) 0 [] (-3) 0 0 0 s00 f := by
  have v0 : ∀ k, ¬ vld (fun _ => 0) k := fun k hk => absurd hk.2 (Nat.not_lt_zero _)
  refine ⟨fun _ _ => 0, fun _ _ => 0, ⟨F0_, fun k hk hr => ?_, fun k hk hr => ?_, hj⟩, ⟨⟨by omega, fun o => by show 0 < 3; omega, fun b => by show 0 ≤ 32; omega, fun b _ p hp => absurd hp (Nat.not_lt_zero p)⟩, ⟨fun o ho => absurd ho (Nat.not_lt_zero o), fun b _ => rfl, fun k hk => absurd hk (v0 k)⟩, ⟨by omega, fun a _ o ho => absurd ho (Nat.not_lt_zero o)⟩, ⟨fun o ho => absurd ho (Nat.not_lt_zero o), fun x _ => Or.inl (show (-3 : Int32).toInt = -3 from by decide), ⟨List.nodup_nil, fun c h => absurd h List.not_mem_nil⟩, fun o h => (by have h : false = true := h; cases h)⟩, fun a _ => ⟨fun o ho => absurd ho (Nat.not_lt_zero o), fun o _ _ j _ => ⟨rfl, rfl, fun _ _ => rfl⟩⟩, ⟨fun o ho => absurd ho (Nat.not_lt_zero o), fun o _ _ j _ => ⟨rfl, rfl, fun _ _ => rfl⟩⟩, fun o _ => rfl, fun o _ => rfl, fun L _ => rfl, ⟨Nat.zero_le _, fun i hi => absurd hi (Nat.not_lt_zero i)⟩, fun i hi => absurd hi (Nat.not_lt_zero i), Or.inr ⟨rfl, fun _ _ => rfl⟩, fun _ _ => rfl, fun o h => (by have h : false = true := h; cases h)⟩, by omega, by omega⟩
  · rcases rI_r k hk hr with rfl | rfl | rfl | rfl | rfl | rfl | rfl | rfl | rfl | rfl | rfl | rfl | rfl | rfl | rfl | rfl
    · exact F1_
    · exact F4_
    · exact F5_
    · exact F6_
    · exact F8_
    · exact F9_
    · exact F10_
    · exact F11_
    · exact F13_
    · exact F14_
    · exact F15_
    · exact F20_
    · exact F21_
    · exact F23_
    · exact F24_
    · exact F26_
  · rcases rJ_r k hk hr with rfl | rfl | rfl
    · exact F3_
    · exact F12_
    · exact F27_
def pmC : List Nat := [40, 39, 38, 13, 12, 37, 36, 35, 34, 33, 32, 31, 30, 29, 28, 27, 26, 25, 24, 23, 22, 21, 20, 19, 18, 17, 16, 15, 14, 11, 10, 9, 8, 7, 6, 5, 4, 3, 2, 1, 0]
theorem pmC_inj : ∀ i, i < 41 → ∀ j, j < 41 → pmC.getD i 0 = pmC.getD j 0 → i = j := by decide +kernel
theorem pmC_lt : ∀ i, i < 41 → pmC.getD i 0 < 41 := by decide +kernel
set_option maxHeartbeats 4000000 in
set_option maxRecDepth 100000 in
theorem c5_mk {G : mG} {f f2 : mF} {q : Nat} {a0_ a1_ a2_ a3_ a4_ a5_ a6_ a7_ a8_ a9_ a10_ a11_ a12_ a13_ a14_ a15_ a16_ a17_ a18_ a19_ a20_ a21_ a22_ a23_ a24_ a25_ a26_ a27_ a28_ a29_ a30_ a31_ a32_ a33_ a34_ a35_ a36_ a37_ a38_ a39_ : Nat} (Fq : f2 q = some (.inr (5, [.ref a0_, .int 0, .int 0, .ref a1_, .ref a2_, .ref a10_, .ref a18_, .int 0, .int 0, .int 0, .ref a26_, .int 0, .ref a27_, .int (-1)]))) (hL : inL q f [(a39_, .inl (gk G 5, 32, .inr (.inr (.inr (.inr (fun _ => none)))))), (a38_, .inr (1, [.ref a39_, .int 0])), (a37_, .inl (gk G 5, 32, .inr (.inr (.inr (.inr (fun _ => none)))))), (a36_, .inr (1, [.ref a37_, .int 0])), (a35_, .inl (gk G 5, 32, .inr (.inr (.inr (.inr (fun _ => none)))))), (a34_, .inr (1, [.ref a35_, .int 0])), (a33_, .inl (gk G 5, 32, .inr (.inr (.inr (.inr (fun _ => none)))))), (a32_, .inr (1, [.ref a33_, .int 0])), (a31_, .inl (gk G 5, 32, .inr (.inr (.inr (.inr (fun _ => none)))))), (a30_, .inr (1, [.ref a31_, .int 0])), (a29_, .inl (gk G 5, 32, .inr (.inr (.inr (.inr (fun _ => none)))))), (a28_, .inr (1, [.ref a29_, .int 0])), (a27_, .inl (gk G 0, 192, .inl (fun _ => 0))), (a26_, .inl (gk G 0, 192, .inl (fun _ => 0))), (a25_, .inl (gk G 1, 4, .inr (.inl (fun _ => 0)))), (a24_, .inl (gk G 0, 4, .inl (fun _ => 0))), (a23_, .inl (gk G 3, 24, .inr (.inr (.inr (.inr (fun _ => none)))))), (a22_, .inl (gk G 0, 24, .inl (fun _ => 0))), (a21_, .inl (gk G 0, 24, .inl (fun _ => 0))), (a20_, .inl (gk G 0, 384, .inl (fun _ => 0))), (a19_, .inr (4, [.ref a20_, .int 0, .int 0, .ref a21_, .ref a22_])), (a18_, .inr (3, [.ref a19_, .int 0, .int 0, .long 0, .int 0, .int (-3), .null, .ref a23_, .ref a24_, .ref a25_, .int 0])), (a17_, .inl (gk G 1, 4, .inr (.inl (fun _ => 0)))), (a16_, .inl (gk G 0, 4, .inl (fun _ => 0))), (a15_, .inl (gk G 3, 24, .inr (.inr (.inr (.inr (fun _ => none)))))), (a14_, .inl (gk G 0, 24, .inl (fun _ => 0))), (a13_, .inl (gk G 0, 24, .inl (fun _ => 0))), (a12_, .inl (gk G 0, 384, .inl (fun _ => 0))), (a11_, .inr (4, [.ref a12_, .int 0, .int 0, .ref a13_, .ref a14_])), (a10_, .inr (3, [.ref a11_, .int 0, .int 0, .long 0, .int 0, .int (-3), .null, .ref a15_, .ref a16_, .ref a17_, .int 0])), (a9_, .inl (gk G 1, 4, .inr (.inl (fun _ => 0)))), (a8_, .inl (gk G 0, 4, .inl (fun _ => 0))), (a7_, .inl (gk G 3, 24, .inr (.inr (.inr (.inr (fun _ => none)))))), (a6_, .inl (gk G 0, 24, .inl (fun _ => 0))), (a5_, .inl (gk G 0, 24, .inl (fun _ => 0))), (a4_, .inl (gk G 0, 384, .inl (fun _ => 0))), (a3_, .inr (4, [.ref a4_, .int 0, .int 0, .ref a5_, .ref a6_])), (a2_, .inr (3, [.ref a3_, .int 0, .int 0, .long 0, .int 0, .int (-3), .null, .ref a7_, .ref a8_, .ref a9_, .int 0])), (a1_, .inl (gk G 4, 6, .inr (.inr (.inr (.inr (va_up (va_up (va_up (va_up (va_up (va_up (fun _ => none) (0 : Int32).toNatClampNeg (some a28_)) (1 : Int32).toNatClampNeg (some a30_)) (2 : Int32).toNatClampNeg (some a32_)) (3 : Int32).toNatClampNeg (some a34_)) (4 : Int32).toNatClampNeg (some a36_)) (5 : Int32).toNatClampNeg (some a38_))))))), (a0_, .inl (gk G 3, 24, .inr (.inr (.inr (.inr (fun _ => none))))))] f2) : ∃ k : Nat → Nat, k 0 = q ∧ CM G k (ownK k) 0 (fun _ => 0) (D00 k) f2 := by
  have hs : ([a39_, a38_, a37_, a36_, a35_, a34_, a33_, a32_, a31_, a30_, a29_, a28_, a27_, a26_, a25_, a24_, a23_, a22_, a21_, a20_, a19_, a18_, a17_, a16_, a15_, a14_, a13_, a12_, a11_, a10_, a9_, a8_, a7_, a6_, a5_, a4_, a3_, a2_, a1_, a0_, q] : List Nat).Pairwise (fun x y => y < x) := hL.sorted
  refine ⟨fun j => ([a39_, a38_, a37_, a36_, a35_, a34_, a33_, a32_, a31_, a30_, a29_, a28_, a27_, a26_, a25_, a24_, a23_, a22_, a21_, a20_, a19_, a18_, a17_, a16_, a15_, a14_, a13_, a12_, a11_, a10_, a9_, a8_, a7_, a6_, a5_, a4_, a3_, a2_, a1_, a0_, q] : List Nat).getD (pmC.getD j 0) 0, rfl, ?_⟩
  refine CM.mk0 (fun i j hi hj e => pmC_inj i hi j hj (getD_inj hs (pmC_lt i hi) (pmC_lt j hj) e)) Fq (hL.at 39 rfl) (hL.at 38 rfl) (hL.at 13 rfl) (hL.at 12 rfl) (hL.at 37 rfl) (hL.at 36 rfl) (hL.at 35 rfl) (hL.at 34 rfl) (hL.at 33 rfl) (hL.at 32 rfl) (hL.at 31 rfl) (hL.at 30 rfl) (hL.at 29 rfl) (hL.at 28 rfl) (hL.at 27 rfl) (hL.at 26 rfl) (hL.at 25 rfl) (hL.at 24 rfl) (hL.at 23 rfl) (hL.at 22 rfl) (hL.at 21 rfl) (hL.at 20 rfl) (hL.at 19 rfl) (hL.at 18 rfl) (hL.at 17 rfl) (hL.at 16 rfl) (hL.at 15 rfl) (hL.at 14 rfl) (hL.at 11 rfl) (hL.at 10 rfl) (hL.at 9 rfl) (hL.at 8 rfl) (hL.at 7 rfl) (hL.at 6 rfl) (hL.at 5 rfl) (hL.at 4 rfl) (hL.at 3 rfl) (hL.at 2 rfl) (hL.at 1 rfl) (hL.at 0 rfl)
def pmM : List Nat := [19, 18, 19, 17, 16, 15, 14, 19, 13, 12, 11, 10, 9, 8, 7, 6, 19, 19, 19, 19, 5, 4, 19, 3, 2, 19, 1, 0, 19, 19]
theorem pmM_inj : ∀ i, i < 30 → ∀ j, j < 30 → pmM.getD i 0 = pmM.getD j 0 → rM i = true → rM j = true → i = j := by decide +kernel
theorem pmM_lt : ∀ i, i < 30 → pmM.getD i 0 < 20 := by decide +kernel
theorem pmM_0 : ∀ j, j < 30 → rM j = false → pmM.getD j 0 = 19 := by decide +kernel
set_option maxHeartbeats 4000000 in
set_option maxRecDepth 100000 in
theorem c6_mk {G : mG} {f f2 : mF} {q : Nat} {a0_ a1_ a2_ a3_ a4_ a5_ a6_ a7_ a8_ a9_ a10_ a11_ a12_ a13_ a14_ a15_ a16_ a17_ a18_ : Nat} (Fq : f2 q = some (.inr (6, [.int 0, .ref a0_, .int 0, .ref a1_, .ref a2_, .ref a3_, .ref a4_, .int 0, .ref a5_, .ref a6_, .ref a7_, .ref a8_, .ref a9_, .ref a10_, .ref a11_, .ref a12_, .int 0, .long 0, .int (-3), .int 0, .ref a13_, .ref a14_, .int 0, .ref a15_, .ref a16_, .int 0, .ref a17_, .ref a18_, .int 0, .int 0]))) (hL : inL q f [(a18_, .inl (gk G 1, 4, .inr (.inl (fun _ => 0)))), (a17_, .inl (gk G 0, 4, .inl (fun _ => 0))), (a16_, .inl (gk G 2, 24, .inl (fun _ => 0))), (a15_, .inl (gk G 0, 192, .inl (fun _ => 0))), (a14_, .inl (gk G 0, 400, .inl (fun _ => 0))), (a13_, .inl (gk G 0, 400, .inl (fun _ => 0))), (a12_, .inl (gk G 0, 192, .inl (fun _ => 0))), (a11_, .inl (gk G 0, 192, .inl (fun _ => 0))), (a10_, .inl (gk G 0, 192, .inl (fun _ => 0))), (a9_, .inl (gk G 1, 192, .inr (.inl (fun _ => 0)))), (a8_, .inl (gk G 0, 192, .inl (fun _ => 0))), (a7_, .inl (gk G 0, 192, .inl (fun _ => 0))), (a6_, .inl (gk G 0, 6, .inl (fun _ => 0))), (a5_, .inl (gk G 0, 192, .inl (fun _ => 0))), (a4_, .inl (gk G 2, 24, .inl (fun _ => 0))), (a3_, .inl (gk G 0, 64512, .inl (fun _ => 0))), (a2_, .inl (gk G 0, 8064, .inl (fun _ => 0))), (a1_, .inl (gk G 1, 8064, .inr (.inl (fun _ => 0)))), (a0_, .inl (gk G 0, 24, .inl (fun _ => 0)))] f2) : ∃ h : Nat → Nat, h 0 = q ∧ FM G h 0 (fun _ => 0) (fun _ => 0) (fun _ => (0, 0, 0, 0, 0, 0)) 0 (fun _ _ => (fun _ => 0, fun _ => 0)) (fun _ => false) 0 (fun _ => 0) 0 [] (-3) 0 0 0 s00 f2 ∧ (∀ j, j < 30 → rM j = false → h j = h 0) ∧ ∀ j, j < 30 → h j = q ∨ f (h j) = none := by
  have hs : ([a18_, a17_, a16_, a15_, a14_, a13_, a12_, a11_, a10_, a9_, a8_, a7_, a6_, a5_, a4_, a3_, a2_, a1_, a0_, q] : List Nat).Pairwise (fun x y => y < x) := hL.sorted
  refine ⟨fun j => ([a18_, a17_, a16_, a15_, a14_, a13_, a12_, a11_, a10_, a9_, a8_, a7_, a6_, a5_, a4_, a3_, a2_, a1_, a0_, q] : List Nat).getD (pmM.getD j 0) 0, rfl, ?_, ?_, ?_⟩
  · refine FM.mk0 (fun i j hi hj e h1 h2 => pmM_inj i hi j hj (getD_inj hs (pmM_lt i hi) (pmM_lt j hj) e) h1 h2) Fq (hL.at 18 rfl) (hL.at 17 rfl) (hL.at 16 rfl) (hL.at 15 rfl) (hL.at 14 rfl) (hL.at 13 rfl) (hL.at 12 rfl) (hL.at 11 rfl) (hL.at 10 rfl) (hL.at 9 rfl) (hL.at 8 rfl) (hL.at 7 rfl) (hL.at 6 rfl) (hL.at 5 rfl) (hL.at 4 rfl) (hL.at 3 rfl) (hL.at 2 rfl) (hL.at 1 rfl) (hL.at 0 rfl)
  · intro j hj hr
    show ([a18_, a17_, a16_, a15_, a14_, a13_, a12_, a11_, a10_, a9_, a8_, a7_, a6_, a5_, a4_, a3_, a2_, a1_, a0_, q] : List Nat).getD (pmM.getD j 0) 0 = q
    rw [pmM_0 j hj hr]
    rfl
  · intro j hj
    by_cases h19 : pmM.getD j 0 = 19
    · left
      show ([a18_, a17_, a16_, a15_, a14_, a13_, a12_, a11_, a10_, a9_, a8_, a7_, a6_, a5_, a4_, a3_, a2_, a1_, a0_, q] : List Nat).getD (pmM.getD j 0) 0 = q
      rw [h19]
      rfl
    · right
      exact getD_map hL _ (by have := pmM_lt j hj; show pmM.getD j 0 < 20; omega) h19
