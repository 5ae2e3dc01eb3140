theorem up_self {f : mF} {a : Nat} {e : va_E} (h : f a = some e) : f = va_up f a (some e) := by
  funext b
  by_cases hb : b = a
  · subst hb; rw [va_up_self]; exact h
  · rw [va_up_ne _ _ hb]
theorem fillI {g : Nat → Int32} {v : Int32} {A : Int} {k : Nat} (h : ∀ j : Nat, (j : Int) < A → g j = v) (hk : (k : Int) = A) : ∀ j : Nat, (j : Int) < A + 1 → upd g k v j = v := by
  intro j hj
  unfold upd
  split
  · rfl
  · exact h j (by omega)
theorem fillL {g : Nat → Int64} {v : Int64} {A : Int} {k : Nat} (h : ∀ j : Nat, (j : Int) < A → g j = v) (hk : (k : Int) = A) : ∀ j : Nat, (j : Int) < A + 1 → vp_updL g k v j = v := by
  intro j hj
  unfold vp_updL
  split
  · rfl
  · exact h j (by omega)
theorem pCl_cpy {n t : Nat} {g0 g1 : Nat → Int64} (h : pCl n t g0) : pCl n t (va_cpy g0 g1 (0 : Int32).toNatClampNeg (0 : Int32).toNatClampNeg (8 : Int32).toNatClampNeg) := by
  intro j hj
  have e : va_cpy g0 g1 (0 : Int32).toNatClampNeg (0 : Int32).toNatClampNeg (8 : Int32).toNatClampNeg j = g0 j := by
    show va_cpy g0 g1 0 0 8 j = g0 j
    rw [pk_cpy_in (by omega) (by omega)]
    congr 1
    omega
  rw [e]
  exact h j hj
theorem xTr_0 {G : mG} {k : Nat → Nat} {i : Nat} {f : mF} {fs : List Value} (e0 : f (k (5 + 8 * i + 1)) = some (.inr (4, fs))) (et : fs[1]? = some (.int 0)) : xTr G k i f := by
  intro fs' ct r q a0 a1 a2 a3
  rw [e0] at a0; cases a0
  rw [et] at a1; cases a1
  have := kI_0
  omega
theorem xTr_mk {G : mG} {k : Nat → Nat} {i : Nat} {f : mF} {fs : List Value} {ct : Int32} {r q : Nat → Int32} (e0 : f (k (5 + 8 * i + 1)) = some (.inr (4, fs))) (et : fs[1]? = some (.int ct)) (e3 : f (k (5 + 8 * i + 3)) = some (.inl (gk G 0, 24, .inl r))) (e4 : f (k (5 + 8 * i + 4)) = some (.inl (gk G 0, 24, .inl q))) (h : ct.toInt ≤ pcs r 24 + pcs q 24) : xTr G k i f := by
  intro fs' ct' r' q' a0 a1 a2 a3
  rw [e0] at a0; cases a0
  rw [et] at a1; cases a1
  rw [e3] at a2; cases a2
  rw [e4] at a3; cases a3
  exact h
def kpT (k : Nat → Nat) (i : Nat) (f f2 : mF) : Prop := ∀ c, (c = 0 ∨ 5 ≤ c) → c < 8 → f2 (k (5 + 8 * i + c)) = f (k (5 + 8 * i + c))
theorem kpT.up {k : Nat → Nat} {i : Nat} {f f2 f3 : mF} {x : Option va_E} (h : kpT k i f f2) (hj : injC k) (hi : i < 3) (c : Nat) (hc1 : 1 ≤ c) (hc4 : c ≤ 4) (ef : f3 = va_up f2 (k (5 + 8 * i + c)) x) : kpT k i f f3 := by
  intro q hq hq8
  rw [ef, va_up_ne _ _ (neC hj (by omega) (by omega) (by omega))]
  exact h q hq hq8
theorem kpT.trans {k : Nat → Nat} {i : Nat} {f f2 f3 : mF} (h1 : kpT k i f f2) (h2 : kpT k i f2 f3) : kpT k i f f3 := fun c a b => (h2 c a b).trans (h1 c a b)
theorem bn_le (b : Bool) : b.toNat ≤ 1 := by cases b <;> decide
theorem pc8_le (x : Int32) : pc8 x ≤ 8 := by
  have h := fun i => bn_le (x.toBitVec.getLsbD i)
  have h0 := h 0; have h1 := h 1; have h2 := h 2; have h3 := h 3; have h4 := h 4; have h5 := h 5; have h6 := h 6; have h7 := h 7
  unfold pc8
  omega
theorem pcs_le (r : Nat → Int32) : ∀ m, pcs r m ≤ 8 * m
  | 0 => Nat.le_refl 0
  | m + 1 => by
    have h1 := pcs_le r m
    have h2 := pc8_le (r m)
    show pcs r m + pc8 (r m) ≤ 8 * (m + 1)
    omega
theorem pcs_far {r : Nat → Int32} {o : Nat} {v : Int32} : ∀ m, m ≤ o → pcs (upd r o v) m = pcs r m
  | 0, _ => rfl
  | m + 1, h => by
    show pcs (upd r o v) m + pc8 (upd r o v m) = pcs r m + pc8 (r m)
    rw [pcs_far m (by omega), upd_far (by omega)]
theorem pcs_upm {r : Nat → Int32} {o : Nat} {v : Int32} (hv : pc8 v = pc8 (r o) + 1) : ∀ m, o < m → pcs (upd r o v) m = pcs r m + 1
  | 0, h => by omega
  | m + 1, h => by
    show pcs (upd r o v) m + pc8 (upd r o v m) = pcs r m + pc8 (r m) + 1
    by_cases ho : o = m
    · subst ho
      rw [pcs_far o (Nat.le_refl _), upd_at, hv]
      omega
    · rw [pcs_upm hv m (by omega), upd_far (by omega)]
      omega
theorem pcs_up {r : Nat → Int32} {o : Nat} {v : Int32} (ho : o < 24) (hv : pc8 v = pc8 (r o) + 1) : pcs (upd r o v) 24 = pcs r 24 + 1 := pcs_upm hv 24 ho
theorem shl_bv : ∀ j : Nat, j < 8 → ((1 : Int32) <<< (nI j &&& 31)).toBitVec = BitVec.twoPow 32 j := by decide
theorem pc8_or {x f : Int32} (hf0 : 0 ≤ f.toInt) (hf : f.toInt < 8) (h : x &&& ((1 : Int32) <<< (f &&& 31)) = 0) : pc8 (x ||| ((1 : Int32) <<< (f &&& 31))) = pc8 x + 1 := by
  obtain ⟨j, hj, rfl⟩ : ∃ j : Nat, j < 8 ∧ f = nI j := ⟨f.toInt.toNat, by omega, ic_inj (by omega) (by omega)⟩
  have e := shl_bv j hj
  have hb : ∀ i, (x ||| ((1 : Int32) <<< (nI j &&& 31))).toBitVec.getLsbD i = (x.toBitVec.getLsbD i || (BitVec.twoPow 32 j).getLsbD i) := by
    intro i
    rw [Int32.toBitVec_or, BitVec.getLsbD_or, e]
  have h0 : x.toBitVec.getLsbD j = false := by
    have q := congrArg (fun q : Int32 => q.toBitVec.getLsbD j) h
    simp only [Int32.toBitVec_and, BitVec.getLsbD_and, e] at q
    rw [BitVec.getLsbD_twoPow] at q
    have hj32 : j < 32 := by omega
    simpa [hj32] using q
  unfold pc8
  rw [hb 0, hb 1, hb 2, hb 3, hb 4, hb 5, hb 6, hb 7]
  generalize x.toBitVec.getLsbD = B at h0 ⊢
  have hc : j = 0 ∨ j = 1 ∨ j = 2 ∨ j = 3 ∨ j = 4 ∨ j = 5 ∨ j = 6 ∨ j = 7 := by omega
  rcases hc with rfl | rfl | rfl | rfl | rfl | rfl | rfl | rfl <;> simp [BitVec.getLsbD_twoPow, h0] <;> omega
theorem acts_put {rho : tR} {g : Nat → Option Nat} {j a : Nat} (h : ∀ i, i < 32 → g i = none ∨ ∃ a, g i = some a ∧ rho a = (4, 0)) (ha : rho a = (4, 0)) : ∀ i, i < 32 → va_up g j (some a) i = none ∨ ∃ b, va_up g j (some a) i = some b ∧ rho b = (4, 0) := by
  intro i hi
  by_cases hq : i = j
  · subst hq; rw [va_up_self]; exact Or.inr ⟨a, rfl, ha⟩
  · rw [va_up_ne _ _ hq]; exact h i hi
theorem IC.setZ {G : mG} {k : Nat → Nat} {rho : tR} {n : Nat} {T z z2 : Nat → Nat} {st : Nat → Bool} {f f2 : mF} {x : Int32} (hI : IC G k rho n T z st f) {b : Nat} (hb : b < 6) (ef : f2 = va_up f (k (29 + 2 * b)) (some (.inr (1, [.ref (k (29 + 2 * b + 1)), .int x])))) (hx : nI (z2 b) = x) (hz : ∀ q, q ≠ b → z2 q = z q) (hle : z2 b ≤ 32) : IC G k rho n T z2 st f2 := by
  have h1 : IC G k rho n T z st (va_up f (k (29 + 2 * b)) (f (k (29 + 2 * b)))) := by
    have : va_up f (k (29 + 2 * b)) (f (k (29 + 2 * b))) = f := by
      funext a
      by_cases ha : a = k (29 + 2 * b)
      · subst ha; rw [va_up_self]
      · rw [va_up_ne _ _ ha]
    rw [this]; exact hI
  refine ⟨fun j hj => ?_, fun a => ?_, fun i hi => ?_, fun i hi => ?_, hI.2.2.2.2.1, hI.2.2.2.2.2.1, hI.2.2.2.2.2.2.1, hI.2.2.2.2.2.2.2.1, fun q => ?_⟩
  · by_cases hjb : j = 29 + 2 * b
    · subst hjb
      rw [okC_B, ef, va_up_self, ← hx]
    · rw [ef, va_up_ne _ _ (neC hI.2.2.2.2.1 hj (by omega) hjb)]
      have hp := hI.1 j hj
      unfold okC at hp ⊢
      split at hp
      · rw [if_pos ‹_›]; exact hp
      rw [if_neg ‹_›]
      split at hp
      · rw [if_pos ‹_›]; exact hp
      rw [if_neg ‹_›]
      split at hp
      · rw [if_pos ‹_›]; exact hp
      rw [if_neg ‹_›]
      split at hp
      · rw [if_pos ‹_›]; exact hp
      rw [if_neg ‹_›]
      split at hp
      · rw [if_pos ‹_›]; exact hp
      rw [if_neg ‹_›]
      split at hp
      · rw [if_pos ‹_›]
        show _ = some (Sum.inr (1, [Value.ref _, Value.int (nI (z2 ((j - 29) / 2)))]))
        rw [hz ((j - 29) / 2) (by omega)]
        exact hp
      · rw [if_neg ‹_›]; exact hp
  · by_cases ha : a = k (29 + 2 * b)
    · have h0 := hI.2.2.2.2.2.1 (29 + 2 * b) (by omega)
      rw [ha]; unfold okP; rw [h0]; trivial
    · rw [ef, va_up_ne _ _ ha]; exact hI.2.1 a
  · rw [ef]; exact (hI.2.2.1 i hi).other hI.2.2.2.2.1 hi (by omega) (by omega) (by omega)
  · rw [ef]; exact (hI.2.2.2.1 i hi).other hI.2.2.2.2.1 hi (by omega) (by omega) (by omega) (by omega)
  · by_cases hq : q = b
    · subst hq; exact hle
    · rw [hz q hq]; exact hI.2.2.2.2.2.2.2.2 q
