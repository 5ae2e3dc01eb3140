section TQs
variable {G : mG} {k : Nat → Nat} {own : tR} {n : Nat} {z : Nat → Nat} {D : tD} {f f2 : mF} {i : Nat}
theorem CM.kne (h : CM G k own n z D f) : ∀ a b, a < 41 → b < 41 → a ≠ b → k a ≠ k b := fun _ _ ha hb hne => h.ne ha hb hne
theorem CM.trc (h : CM G k own n z D f) (hi : i < 3) {l : List Nat} (hT : TQ G k i l f2) (hf : ∀ a, (∀ c, 1 ≤ c → c ≤ 4 → a ≠ k (5 + 8 * i + c)) → f2 a = f a) : ∃ D2, CM G k own n z D2 f2 ∧ BD D2 = BD D ∧ AD D2 = AD D ∧ lD D2 = lD D ∧ rD D2 = rD D ∧ (∀ q, q ≠ i → eD D2 q = eD D q) ∧ JD D2 = JD D ∧ QD D2 = QD D ∧ (∀ j, j ≠ 5 + 8 * i + 2 → j ≠ 5 + 8 * i + 3 → j ≠ 5 + 8 * i + 4 → ID D2 j = ID D j) ∧ TRC l (eD D2 i) (ID D2 (5 + 8 * i + 2)) (ID D2 (5 + 8 * i + 3)) (ID D2 (5 + 8 * i + 4)) := by
  obtain ⟨e, en, rb, cb, F1, F2, F3, F4, hT⟩ := hT
  have h1 := h.setE (i0 := i) hi (q := e) rfl
  have h2 := h1.setI2 (i0 := i) hi (g := en) rfl
  have h3 := h2.setI3 (i0 := i) hi (g := rb) rfl
  have h4 := h3.setI4 (i0 := i) hi (g := cb) rfl
  have ne : ∀ c d, c < 5 → d < 5 → c ≠ d → k (5 + 8 * i + c) ≠ k (5 + 8 * i + d) := fun c d hc hd hne => h.ne (by omega) (by omega) (by omega)
  have ef : f2 = va_up (va_up (va_up (va_up f (k (5 + 8 * i + 1)) (some (.inr (4, [.ref (k (5 + 8 * i + 2)), .int e.1, .int e.2, .ref (k (5 + 8 * i + 3)), .ref (k (5 + 8 * i + 4))])))) (k (5 + 8 * i + 2)) (some (.inl (gk G 0, 384, .inl en)))) (k (5 + 8 * i + 3)) (some (.inl (gk G 0, 24, .inl rb)))) (k (5 + 8 * i + 4)) (some (.inl (gk G 0, 24, .inl cb))) := by
    funext a
    by_cases q4 : a = k (5 + 8 * i + 4)
    · rw [q4, va_up_self]; exact F4
    rw [va_up_ne _ _ q4]
    by_cases q3 : a = k (5 + 8 * i + 3)
    · rw [q3, va_up_self]; exact F3
    rw [va_up_ne _ _ q3]
    by_cases q2 : a = k (5 + 8 * i + 2)
    · rw [q2, va_up_self]; exact F2
    rw [va_up_ne _ _ q2]
    by_cases q1 : a = k (5 + 8 * i + 1)
    · rw [q1, va_up_self]; exact F1
    rw [va_up_ne _ _ q1]
    refine hf a (fun c hc hc2 => ?_)
    have : c = 1 ∨ c = 2 ∨ c = 3 ∨ c = 4 := by omega
    rcases this with rfl | rfl | rfl | rfl
    · exact q1
    · exact q2
    · exact q3
    · exact q4
  rw [ef]
  refine ⟨_, h4, rfl, rfl, rfl, rfl, fun q hq => va_up_ne _ _ hq, rfl, rfl, fun j j2 j3 j4 => ?_, ?_⟩
  · rw [ID_n j4, ID_n j3, ID_n j2]; rfl
  · rw [ID_n (by omega), ID_n (by omega), ID_s, ID_n (by omega), ID_s, ID_s]
    show TRC l (va_up (eD D) i e i) en rb cb
    rw [va_up_self]
    exact hT
theorem frD.tq (h : CM G k own n z D f) (hi : i < 3) {l : List Nat} (hT : TQ G k i l f2) (hf : ∀ a, (∀ c, 1 ≤ c → c ≤ 4 → a ≠ k (5 + 8 * i + c)) → f2 a = f a) : frD own f own f2 := by
  obtain ⟨e, en, rb, cb, F1, F2, F3, F4, hT⟩ := hT
  intro a x hx
  by_cases q : ∀ c, 1 ≤ c → c ≤ 4 → a ≠ k (5 + 8 * i + c)
  · rw [hf a q]; exact ⟨⟨x, hx⟩, rfl, fun _ => hx⟩
  · have : ∃ c, 1 ≤ c ∧ c ≤ 4 ∧ a = k (5 + 8 * i + c) := Classical.byContradiction (fun z => q (fun c h1 h2 e => z ⟨c, h1, h2, e⟩))
    obtain ⟨c, c1, c2, rfl⟩ := this
    refine ⟨?_, rfl, fun h0 => ?_⟩
    · have : c = 1 ∨ c = 2 ∨ c = 3 ∨ c = 4 := by omega
      rcases this with rfl | rfl | rfl | rfl
      · exact ⟨_, F1⟩
      · exact ⟨_, F2⟩
      · exact ⟨_, F3⟩
      · exact ⟨_, F4⟩
    · rw [h.ok (5 + 8 * i + c) (by omega)] at h0
      exact absurd h0 (by show ¬ 1 = 0; omega)
theorem tq_of {T : Nat → Nat} {k1 : Nat} {dn th ta nx : Int32} {s : tS} (h : CM G k own n z D f) (hi : i < 3) (hR : RP n T k1 i dn th ta nx s D) : TQ G k i (trS s) f := ⟨eD D i, ID D (5 + 8 * i + 2), ID D (5 + 8 * i + 3), ID D (5 + 8 * i + 4), h.r1 i hi, h.r2 i hi, h.r3 i hi, h.r4 i hi, hR.2.2.2.1⟩
theorem tq_in {T : Nat → Nat} {k1 : Nat} {dn th ta nx : Int32} {s : tS} {c : Nat} (h : CM G k own n z D f) (hi : i < 3) (hR : RP n T k1 i dn th ta nx s D) (hc : c < 384) (hT : TQ G k i (tchL c (trS s)) f2) (hf : ∀ a, (∀ c, 1 ≤ c → c ≤ 4 → a ≠ k (5 + 8 * i + c)) → f2 a = f a) : ∃ D2, CM G k own n z D2 f2 ∧ RP n T k1 i dn th ta nx (sTc s c) D2 ∧ KP i D D2 ∧ BD D2 = BD D ∧ QD D2 = QD D := by
  obtain ⟨D2, q1, q2, q3, q4, q5, q6, q7, q8, q9, q10⟩ := h.trc hi hT hf
  refine ⟨D2, q1, hR.tch hc q2 (by rw [q5]) q7 q8 (q9 _ (by omega) (by omega) (by omega)) q10, ⟨fun a b hb _ => by rw [q2]; exact hb, q3, q4, fun q hq => ⟨by rw [q5], q6 q hq⟩, fun j hj => ⟨q9 j (by omega) (by omega) (by omega), by rw [q7], by rw [q8]⟩, fun o a ho => by rw [q8]; exact ho⟩, q2, q8⟩
end TQs
theorem hobI {n : Nat} {x : Int32} {o : Nat} (h : okHa n x) (hne : x ≠ -3) (e : x.toNatClampNeg = o) : o < n ∧ x = nI o := by
  have q := okHa_ob h hne
  exact ⟨by omega, by rw [← e]; exact (nI_ofC (by omega)).symm⟩
theorem ldS_b {n : Nat} {T : Nat → Nat} {s : tS} {o : Nat} (h : okS n T s) (hl : ldS s o = true) : o < n := h.2.2.2 o hl
theorem b2i_1 {b : Bool} (h : b2i b = 1) : b = true := by
  cases b with
  | true => rfl
  | false => exact absurd h (by decide)
theorem b2i_n1 {b : Bool} (h : ¬ b2i b = 1) : b = false := by
  cases b with
  | false => rfl
  | true => exact absurd rfl h
