/-! the class's memory, exactly. A body: its tag (0 and its object: a version; i + 1 and its object: a copy of the i-th Run), its type, its cells, its items, since, before, its contents. D: bodies, acts, the object's numbers (heightNow, callCount, fetchCount, cachedBits, writtenCount, viewStatus), the Runs' (loadedBits, done, gift, thrown, thrownAt, state, next), the Traces' (count, changedCount), rows of ints, of longs, of references by the number of their cell -/
abbrev tR : Type := Nat → Nat × Nat
abbrev tBo : Type := (Nat × Nat) × Nat × Nat × Nat × Int32 × Option Nat × tB
abbrev gB (b : tBo) : Nat × Nat := b.1
abbrev yB (b : tBo) : Nat := b.2.1
abbrev caB (b : tBo) : Nat := b.2.2.1
abbrev iaB (b : tBo) : Nat := b.2.2.2.1
abbrev siB (b : tBo) : Int32 := b.2.2.2.2.1
abbrev bfB (b : tBo) : Option Nat := b.2.2.2.2.2.1
abbrev cB (b : tBo) : tB := b.2.2.2.2.2.2
def stB (b : tBo) (c : tB) : tBo := (gB b, yB b, caB b, iaB b, siB b, bfB b, c)
abbrev tL : Type := Int32 × Int32 × Int32 × Int32 × Int32 × Int32
abbrev tQ : Type := Int32 × Int32 × Int64 × Int32 × Int32 × Option Nat × Int32
abbrev tD : Type := (Nat → Option tBo) × (Nat → Option tA) × tL × (Nat → tQ) × (Nat → Int32 × Int32) × (Nat → Nat → Int32) × (Nat → Nat → Int64) × (Nat → Nat → Option Nat)
abbrev BD (D : tD) : Nat → Option tBo := D.1
abbrev AD (D : tD) : Nat → Option tA := D.2.1
abbrev lD (D : tD) : tL := D.2.2.1
abbrev rD (D : tD) : Nat → tQ := D.2.2.2.1
abbrev eD (D : tD) : Nat → Int32 × Int32 := D.2.2.2.2.1
abbrev ID (D : tD) : Nat → Nat → Int32 := D.2.2.2.2.2.1
abbrev JD (D : tD) : Nat → Nat → Int64 := D.2.2.2.2.2.2.1
abbrev QD (D : tD) : Nat → Nat → Option Nat := D.2.2.2.2.2.2.2
def dB (D : tD) (a : Nat) (b : tBo) : tD := (va_up (BD D) a (some b), AD D, lD D, rD D, eD D, ID D, JD D, QD D)
def dA (D : tD) (a : Nat) (t : tA) : tD := (BD D, va_up (AD D) a (some t), lD D, rD D, eD D, ID D, JD D, QD D)
def dL (D : tD) (c : tL) : tD := (BD D, AD D, c, rD D, eD D, ID D, JD D, QD D)
def dR (D : tD) (i : Nat) (q : tQ) : tD := (BD D, AD D, lD D, va_up (rD D) i q, eD D, ID D, JD D, QD D)
def dE (D : tD) (i : Nat) (q : Int32 × Int32) : tD := (BD D, AD D, lD D, rD D, va_up (eD D) i q, ID D, JD D, QD D)
def dI (D : tD) (j : Nat) (g : Nat → Int32) : tD := (BD D, AD D, lD D, rD D, eD D, va_up (ID D) j g, JD D, QD D)
def dJ (D : tD) (j : Nat) (g : Nat → Int64) : tD := (BD D, AD D, lD D, rD D, eD D, ID D, va_up (JD D) j g, QD D)
def dQ (D : tD) (j : Nat) (g : Nat → Option Nat) : tD := (BD D, AD D, lD D, rD D, eD D, ID D, JD D, va_up (QD D) j g)
theorem ID_s {D : tD} {j : Nat} {g : Nat → Int32} : ID (dI D j g) j = g := va_up_self _ _ _
theorem ID_n {D : tD} {j x : Nat} {g : Nat → Int32} (h : x ≠ j) : ID (dI D j g) x = ID D x := va_up_ne _ _ h
theorem JD_s {D : tD} {j : Nat} {g : Nat → Int64} : JD (dJ D j g) j = g := va_up_self _ _ _
theorem JD_n {D : tD} {j x : Nat} {g : Nat → Int64} (h : x ≠ j) : JD (dJ D j g) x = JD D x := va_up_ne _ _ h
theorem QD_s {D : tD} {j : Nat} {g : Nat → Option Nat} : QD (dQ D j g) j = g := va_up_self _ _ _
theorem QD_n {D : tD} {j x : Nat} {g : Nat → Option Nat} (h : x ≠ j) : QD (dQ D j g) x = QD D x := va_up_ne _ _ h
theorem rD_s {D : tD} {j : Nat} {g : tQ} : rD (dR D j g) j = g := va_up_self _ _ _
theorem rD_n {D : tD} {j x : Nat} {g : tQ} (h : x ≠ j) : rD (dR D j g) x = rD D x := va_up_ne _ _ h
theorem eD_s {D : tD} {j : Nat} {g : Int32 × Int32} : eD (dE D j g) j = g := va_up_self _ _ _
theorem eD_n {D : tD} {j x : Nat} {g : Int32 × Int32} (h : x ≠ j) : eD (dE D j g) x = eD D x := va_up_ne _ _ h
theorem BD_s {D : tD} {a : Nat} {b : tBo} : BD (dB D a b) a = some b := va_up_self _ _ _
theorem BD_n {D : tD} {a x : Nat} {b : tBo} (h : x ≠ a) : BD (dB D a b) x = BD D x := va_up_ne _ _ h
def CM (G : mG) (k : Nat → Nat) (own : tR) (n : Nat) (z : Nat → Nat) (D : tD) (f : mF) : Prop :=
  (f (k 0) = some (.inr (5, [.ref (k 1), .int (nI n), .int (lD D).1, .ref (k 2), .ref (k 5), .ref (k 13), .ref (k 21), .int (lD D).2.1, .int (lD D).2.2.1, .int (lD D).2.2.2.1, .ref (k 3), .int (lD D).2.2.2.2.1, .ref (k 4), .int (lD D).2.2.2.2.2]))) ∧
  (f (k 1) = some (.inl (gk G 3, 24, .inr (.inr (.inr (.inr (QD D 1))))))) ∧
  (f (k 2) = some (.inl (gk G 4, 6, .inr (.inr (.inr (.inr (QD D 2))))))) ∧
  (f (k 3) = some (.inl (gk G 0, 192, .inl (ID D 3)))) ∧
  (f (k 4) = some (.inl (gk G 0, 192, .inl (ID D 4)))) ∧
  (∀ i, i < 3 → f (k (5 + 8 * i)) = some (.inr (3, [.ref (k (5 + 8 * i + 1)), .int (rD D i).1, .int (rD D i).2.1, .long (rD D i).2.2.1, .int (rD D i).2.2.2.1, .int (rD D i).2.2.2.2.1, va_rf (rD D i).2.2.2.2.2.1, .ref (k (5 + 8 * i + 5)), .ref (k (5 + 8 * i + 6)), .ref (k (5 + 8 * i + 7)), .int (rD D i).2.2.2.2.2.2]))) ∧
  (∀ i, i < 3 → f (k (5 + 8 * i + 1)) = some (.inr (4, [.ref (k (5 + 8 * i + 2)), .int (eD D i).1, .int (eD D i).2, .ref (k (5 + 8 * i + 3)), .ref (k (5 + 8 * i + 4))]))) ∧
  (∀ i, i < 3 → f (k (5 + 8 * i + 2)) = some (.inl (gk G 0, 384, .inl (ID D (5 + 8 * i + 2))))) ∧
  (∀ i, i < 3 → f (k (5 + 8 * i + 3)) = some (.inl (gk G 0, 24, .inl (ID D (5 + 8 * i + 3))))) ∧
  (∀ i, i < 3 → f (k (5 + 8 * i + 4)) = some (.inl (gk G 0, 24, .inl (ID D (5 + 8 * i + 4))))) ∧
  (∀ i, i < 3 → f (k (5 + 8 * i + 5)) = some (.inl (gk G 3, 24, .inr (.inr (.inr (.inr (QD D (5 + 8 * i + 5)))))))) ∧
  (∀ i, i < 3 → f (k (5 + 8 * i + 6)) = some (.inl (gk G 0, 4, .inl (ID D (5 + 8 * i + 6))))) ∧
  (∀ i, i < 3 → f (k (5 + 8 * i + 7)) = some (.inl (gk G 1, 4, .inr (.inl (JD D (5 + 8 * i + 7)))))) ∧
  (∀ b, b < 6 → f (k (29 + 2 * b)) = some (.inr (1, [.ref (k (29 + 2 * b + 1)), .int (nI (z b))]))) ∧
  (∀ b, b < 6 → f (k (29 + 2 * b + 1)) = some (.inl (gk G 5, 32, .inr (.inr (.inr (.inr (QD D (29 + 2 * b + 1)))))))) ∧
  (∀ a b, BD D a = some b → f (a) = some (.inr (2, [.int (nI (yB b)), .ref (caB b), .ref (iaB b), .int (siB b), va_rf (bfB b)]))) ∧
  (∀ a b, BD D a = some b → f (caB b) = some (.inl (gk G 1, 8, .inr (.inl (cB b).1)))) ∧
  (∀ a b, BD D a = some b → f (iaB b) = some (.inl (gk G 0, 16, .inl (cB b).2))) ∧
  (∀ a t, AD D a = some t → f (a) = some (.inr (0, [.int t.1, .int t.2.1, .long t.2.2.1, .int t.2.2.2.1, .int t.2.2.2.2.1, .int t.2.2.2.2.2]))) ∧
  (∀ j, j < 41 → own (k j) = (1, j)) ∧ (∀ a b, BD D a = some b → own a = (2, a) ∧ own (caB b) = (3, a) ∧ own (iaB b) = (4, a)) ∧ (∀ a t, AD D a = some t → own a = (5, a)) ∧ ∀ b, b < 6 → QD D 2 b = some (k (29 + 2 * b))
theorem ow_ne {own : tR} {x y : Nat} {p q : Nat × Nat} (hx : own x = p) (hy : own y = q) (h : p.1 ≠ q.1 ∨ p.2 ≠ q.2) : x ≠ y := fun e_ => by
  rw [e_, hy] at hx
  rcases h with h | h
  · exact h (congrArg Prod.fst hx).symm
  · exact h (congrArg Prod.snd hx).symm
section CMg
variable {G : mG} {k : Nat → Nat} {own : tR} {n : Nat} {z : Nat → Nat} {D : tD} {f f2 : mF}
theorem CM.c0 (h : CM G k own n z D f) : f (k 0) = some (.inr (5, [.ref (k 1), .int (nI n), .int (lD D).1, .ref (k 2), .ref (k 5), .ref (k 13), .ref (k 21), .int (lD D).2.1, .int (lD D).2.2.1, .int (lD D).2.2.2.1, .ref (k 3), .int (lD D).2.2.2.2.1, .ref (k 4), .int (lD D).2.2.2.2.2])) := h.1
theorem CM.c1 (h : CM G k own n z D f) : f (k 1) = some (.inl (gk G 3, 24, .inr (.inr (.inr (.inr (QD D 1)))))) := h.2.1
theorem CM.c2 (h : CM G k own n z D f) : f (k 2) = some (.inl (gk G 4, 6, .inr (.inr (.inr (.inr (QD D 2)))))) := h.2.2.1
theorem CM.c3 (h : CM G k own n z D f) : f (k 3) = some (.inl (gk G 0, 192, .inl (ID D 3))) := h.2.2.2.1
theorem CM.c4 (h : CM G k own n z D f) : f (k 4) = some (.inl (gk G 0, 192, .inl (ID D 4))) := h.2.2.2.2.1
theorem CM.r0 (h : CM G k own n z D f) : ∀ i, i < 3 → f (k (5 + 8 * i)) = some (.inr (3, [.ref (k (5 + 8 * i + 1)), .int (rD D i).1, .int (rD D i).2.1, .long (rD D i).2.2.1, .int (rD D i).2.2.2.1, .int (rD D i).2.2.2.2.1, va_rf (rD D i).2.2.2.2.2.1, .ref (k (5 + 8 * i + 5)), .ref (k (5 + 8 * i + 6)), .ref (k (5 + 8 * i + 7)), .int (rD D i).2.2.2.2.2.2])) := h.2.2.2.2.2.1
theorem CM.r1 (h : CM G k own n z D f) : ∀ i, i < 3 → f (k (5 + 8 * i + 1)) = some (.inr (4, [.ref (k (5 + 8 * i + 2)), .int (eD D i).1, .int (eD D i).2, .ref (k (5 + 8 * i + 3)), .ref (k (5 + 8 * i + 4))])) := h.2.2.2.2.2.2.1
theorem CM.r2 (h : CM G k own n z D f) : ∀ i, i < 3 → f (k (5 + 8 * i + 2)) = some (.inl (gk G 0, 384, .inl (ID D (5 + 8 * i + 2)))) := h.2.2.2.2.2.2.2.1
theorem CM.r3 (h : CM G k own n z D f) : ∀ i, i < 3 → f (k (5 + 8 * i + 3)) = some (.inl (gk G 0, 24, .inl (ID D (5 + 8 * i + 3)))) := h.2.2.2.2.2.2.2.2.1
theorem CM.r4 (h : CM G k own n z D f) : ∀ i, i < 3 → f (k (5 + 8 * i + 4)) = some (.inl (gk G 0, 24, .inl (ID D (5 + 8 * i + 4)))) := h.2.2.2.2.2.2.2.2.2.1
theorem CM.r5 (h : CM G k own n z D f) : ∀ i, i < 3 → f (k (5 + 8 * i + 5)) = some (.inl (gk G 3, 24, .inr (.inr (.inr (.inr (QD D (5 + 8 * i + 5))))))) := h.2.2.2.2.2.2.2.2.2.2.1
theorem CM.r6 (h : CM G k own n z D f) : ∀ i, i < 3 → f (k (5 + 8 * i + 6)) = some (.inl (gk G 0, 4, .inl (ID D (5 + 8 * i + 6)))) := h.2.2.2.2.2.2.2.2.2.2.2.1
theorem CM.r7 (h : CM G k own n z D f) : ∀ i, i < 3 → f (k (5 + 8 * i + 7)) = some (.inl (gk G 1, 4, .inr (.inl (JD D (5 + 8 * i + 7))))) := h.2.2.2.2.2.2.2.2.2.2.2.2.1
theorem CM.b0 (h : CM G k own n z D f) : ∀ b, b < 6 → f (k (29 + 2 * b)) = some (.inr (1, [.ref (k (29 + 2 * b + 1)), .int (nI (z b))])) := h.2.2.2.2.2.2.2.2.2.2.2.2.2.1
theorem CM.b1 (h : CM G k own n z D f) : ∀ b, b < 6 → f (k (29 + 2 * b + 1)) = some (.inl (gk G 5, 32, .inr (.inr (.inr (.inr (QD D (29 + 2 * b + 1))))))) := h.2.2.2.2.2.2.2.2.2.2.2.2.2.2.1
theorem CM.p0 (h : CM G k own n z D f) : ∀ a b, BD D a = some b → f (a) = some (.inr (2, [.int (nI (yB b)), .ref (caB b), .ref (iaB b), .int (siB b), va_rf (bfB b)])) := h.2.2.2.2.2.2.2.2.2.2.2.2.2.2.2.1
theorem CM.p1 (h : CM G k own n z D f) : ∀ a b, BD D a = some b → f (caB b) = some (.inl (gk G 1, 8, .inr (.inl (cB b).1))) := h.2.2.2.2.2.2.2.2.2.2.2.2.2.2.2.2.1
theorem CM.p2 (h : CM G k own n z D f) : ∀ a b, BD D a = some b → f (iaB b) = some (.inl (gk G 0, 16, .inl (cB b).2)) := h.2.2.2.2.2.2.2.2.2.2.2.2.2.2.2.2.2.1
theorem CM.a0 (h : CM G k own n z D f) : ∀ a t, AD D a = some t → f (a) = some (.inr (0, [.int t.1, .int t.2.1, .long t.2.2.1, .int t.2.2.2.1, .int t.2.2.2.2.1, .int t.2.2.2.2.2])) := h.2.2.2.2.2.2.2.2.2.2.2.2.2.2.2.2.2.2.1
theorem CM.ok (h : CM G k own n z D f) : ∀ j, j < 41 → own (k j) = (1, j) := h.2.2.2.2.2.2.2.2.2.2.2.2.2.2.2.2.2.2.2.1
theorem CM.ob (h : CM G k own n z D f) : ∀ a b, BD D a = some b → own a = (2, a) ∧ own (caB b) = (3, a) ∧ own (iaB b) = (4, a) := h.2.2.2.2.2.2.2.2.2.2.2.2.2.2.2.2.2.2.2.2.1
theorem CM.oa (h : CM G k own n z D f) : ∀ a t, AD D a = some t → own a = (5, a) := h.2.2.2.2.2.2.2.2.2.2.2.2.2.2.2.2.2.2.2.2.2.1
theorem CM.bq (h : CM G k own n z D f) : ∀ b, b < 6 → QD D 2 b = some (k (29 + 2 * b)) := h.2.2.2.2.2.2.2.2.2.2.2.2.2.2.2.2.2.2.2.2.2.2
theorem CM.ne (h : CM G k own n z D f) {i j : Nat} (hi : i < 41) (hj : j < 41) (hne : i ≠ j) : k i ≠ k j := ow_ne (h.ok i hi) (h.ok j hj) (Or.inr hne)
end CMg
section CMs
variable {G : mG} {k : Nat → Nat} {own : tR} {n : Nat} {z : Nat → Nat} {D : tD} {f f2 : mF}
theorem CM.setL (h : CM G k own n z D f) {n2 : Nat} {c : tL} (ef : f2 = va_up f (k 0) (some (.inr (5, [.ref (k 1), .int (nI n2), .int c.1, .ref (k 2), .ref (k 5), .ref (k 13), .ref (k 21), .int c.2.1, .int c.2.2.1, .int c.2.2.2.1, .ref (k 3), .int c.2.2.2.2.1, .ref (k 4), .int c.2.2.2.2.2])))) : CM G k own n2 z (dL D c) f2 := by
  subst ef
  refine ⟨?_, ?_, ?_, ?_, ?_, ?_, ?_, ?_, ?_, ?_, ?_, ?_, ?_, ?_, ?_, ?_, ?_, ?_, ?_, h.ok, h.ob, h.oa, h.bq⟩
  · exact va_up_self _ _ _
  · exact (va_up_ne _ _ (ow_ne (h.ok 1 (by omega)) (h.ok 0 (by omega)) (Or.inr (by omega)))).trans (h.c1)
  · exact (va_up_ne _ _ (ow_ne (h.ok 2 (by omega)) (h.ok 0 (by omega)) (Or.inr (by omega)))).trans (h.c2)
  · exact (va_up_ne _ _ (ow_ne (h.ok 3 (by omega)) (h.ok 0 (by omega)) (Or.inr (by omega)))).trans (h.c3)
  · exact (va_up_ne _ _ (ow_ne (h.ok 4 (by omega)) (h.ok 0 (by omega)) (Or.inr (by omega)))).trans (h.c4)
  · exact fun i hi => (va_up_ne _ _ (ow_ne (h.ok (5 + 8 * i) (by omega)) (h.ok 0 (by omega)) (Or.inr (by omega)))).trans (h.r0 i hi)
  · exact fun i hi => (va_up_ne _ _ (ow_ne (h.ok (5 + 8 * i + 1) (by omega)) (h.ok 0 (by omega)) (Or.inr (by omega)))).trans (h.r1 i hi)
  · exact fun i hi => (va_up_ne _ _ (ow_ne (h.ok (5 + 8 * i + 2) (by omega)) (h.ok 0 (by omega)) (Or.inr (by omega)))).trans (h.r2 i hi)
  · exact fun i hi => (va_up_ne _ _ (ow_ne (h.ok (5 + 8 * i + 3) (by omega)) (h.ok 0 (by omega)) (Or.inr (by omega)))).trans (h.r3 i hi)
  · exact fun i hi => (va_up_ne _ _ (ow_ne (h.ok (5 + 8 * i + 4) (by omega)) (h.ok 0 (by omega)) (Or.inr (by omega)))).trans (h.r4 i hi)
  · exact fun i hi => (va_up_ne _ _ (ow_ne (h.ok (5 + 8 * i + 5) (by omega)) (h.ok 0 (by omega)) (Or.inr (by omega)))).trans (h.r5 i hi)
  · exact fun i hi => (va_up_ne _ _ (ow_ne (h.ok (5 + 8 * i + 6) (by omega)) (h.ok 0 (by omega)) (Or.inr (by omega)))).trans (h.r6 i hi)
  · exact fun i hi => (va_up_ne _ _ (ow_ne (h.ok (5 + 8 * i + 7) (by omega)) (h.ok 0 (by omega)) (Or.inr (by omega)))).trans (h.r7 i hi)
  · exact fun b hb => (va_up_ne _ _ (ow_ne (h.ok (29 + 2 * b) (by omega)) (h.ok 0 (by omega)) (Or.inr (by omega)))).trans (h.b0 b hb)
  · exact fun b hb => (va_up_ne _ _ (ow_ne (h.ok (29 + 2 * b + 1) (by omega)) (h.ok 0 (by omega)) (Or.inr (by omega)))).trans (h.b1 b hb)
  · exact fun a b hb => (va_up_ne _ _ (ow_ne (h.ob a b hb).1 (h.ok 0 (by omega)) (Or.inl (show (2 : Nat) ≠ 1 from by decide)))).trans (h.p0 a b hb)
  · exact fun a b hb => (va_up_ne _ _ (ow_ne (h.ob a b hb).2.1 (h.ok 0 (by omega)) (Or.inl (show (3 : Nat) ≠ 1 from by decide)))).trans (h.p1 a b hb)
  · exact fun a b hb => (va_up_ne _ _ (ow_ne (h.ob a b hb).2.2 (h.ok 0 (by omega)) (Or.inl (show (4 : Nat) ≠ 1 from by decide)))).trans (h.p2 a b hb)
  · exact fun a t ht => (va_up_ne _ _ (ow_ne (h.oa a t ht) (h.ok 0 (by omega)) (Or.inl (show (5 : Nat) ≠ 1 from by decide)))).trans (h.a0 a t ht)
theorem CM.setR (h : CM G k own n z D f) {i0 : Nat} (hi0 : i0 < 3) {q : tQ} (ef : f2 = va_up f (k (5 + 8 * i0)) (some (.inr (3, [.ref (k (5 + 8 * i0 + 1)), .int q.1, .int q.2.1, .long q.2.2.1, .int q.2.2.2.1, .int q.2.2.2.2.1, va_rf q.2.2.2.2.2.1, .ref (k (5 + 8 * i0 + 5)), .ref (k (5 + 8 * i0 + 6)), .ref (k (5 + 8 * i0 + 7)), .int q.2.2.2.2.2.2])))) : CM G k own n z (dR D i0 q) f2 := by
  subst ef
  refine ⟨?_, ?_, ?_, ?_, ?_, ?_, ?_, ?_, ?_, ?_, ?_, ?_, ?_, ?_, ?_, ?_, ?_, ?_, ?_, h.ok, h.ob, h.oa, h.bq⟩
  · exact (va_up_ne _ _ (ow_ne (h.ok 0 (by omega)) (h.ok (5 + 8 * i0) (by omega)) (Or.inr (by omega)))).trans (h.c0)
  · exact (va_up_ne _ _ (ow_ne (h.ok 1 (by omega)) (h.ok (5 + 8 * i0) (by omega)) (Or.inr (by omega)))).trans (h.c1)
  · exact (va_up_ne _ _ (ow_ne (h.ok 2 (by omega)) (h.ok (5 + 8 * i0) (by omega)) (Or.inr (by omega)))).trans (h.c2)
  · exact (va_up_ne _ _ (ow_ne (h.ok 3 (by omega)) (h.ok (5 + 8 * i0) (by omega)) (Or.inr (by omega)))).trans (h.c3)
  · exact (va_up_ne _ _ (ow_ne (h.ok 4 (by omega)) (h.ok (5 + 8 * i0) (by omega)) (Or.inr (by omega)))).trans (h.c4)
  · exact fun i hi => (Decidable.em (i = i0)).elim (fun q_ => by subst q_; rw [va_up_self, rD_s]) (fun q_ => by rw [va_up_ne _ _ (h.ne (by omega) (by omega) (by omega)), rD_n q_]; exact h.r0 i hi)
  · exact fun i hi => (va_up_ne _ _ (ow_ne (h.ok (5 + 8 * i + 1) (by omega)) (h.ok (5 + 8 * i0) (by omega)) (Or.inr (by omega)))).trans (h.r1 i hi)
  · exact fun i hi => (va_up_ne _ _ (ow_ne (h.ok (5 + 8 * i + 2) (by omega)) (h.ok (5 + 8 * i0) (by omega)) (Or.inr (by omega)))).trans (h.r2 i hi)
  · exact fun i hi => (va_up_ne _ _ (ow_ne (h.ok (5 + 8 * i + 3) (by omega)) (h.ok (5 + 8 * i0) (by omega)) (Or.inr (by omega)))).trans (h.r3 i hi)
  · exact fun i hi => (va_up_ne _ _ (ow_ne (h.ok (5 + 8 * i + 4) (by omega)) (h.ok (5 + 8 * i0) (by omega)) (Or.inr (by omega)))).trans (h.r4 i hi)
  · exact fun i hi => (va_up_ne _ _ (ow_ne (h.ok (5 + 8 * i + 5) (by omega)) (h.ok (5 + 8 * i0) (by omega)) (Or.inr (by omega)))).trans (h.r5 i hi)
  · exact fun i hi => (va_up_ne _ _ (ow_ne (h.ok (5 + 8 * i + 6) (by omega)) (h.ok (5 + 8 * i0) (by omega)) (Or.inr (by omega)))).trans (h.r6 i hi)
  · exact fun i hi => (va_up_ne _ _ (ow_ne (h.ok (5 + 8 * i + 7) (by omega)) (h.ok (5 + 8 * i0) (by omega)) (Or.inr (by omega)))).trans (h.r7 i hi)
  · exact fun b hb => (va_up_ne _ _ (ow_ne (h.ok (29 + 2 * b) (by omega)) (h.ok (5 + 8 * i0) (by omega)) (Or.inr (by omega)))).trans (h.b0 b hb)
  · exact fun b hb => (va_up_ne _ _ (ow_ne (h.ok (29 + 2 * b + 1) (by omega)) (h.ok (5 + 8 * i0) (by omega)) (Or.inr (by omega)))).trans (h.b1 b hb)
  · exact fun a b hb => (va_up_ne _ _ (ow_ne (h.ob a b hb).1 (h.ok (5 + 8 * i0) (by omega)) (Or.inl (show (2 : Nat) ≠ 1 from by decide)))).trans (h.p0 a b hb)
  · exact fun a b hb => (va_up_ne _ _ (ow_ne (h.ob a b hb).2.1 (h.ok (5 + 8 * i0) (by omega)) (Or.inl (show (3 : Nat) ≠ 1 from by decide)))).trans (h.p1 a b hb)
  · exact fun a b hb => (va_up_ne _ _ (ow_ne (h.ob a b hb).2.2 (h.ok (5 + 8 * i0) (by omega)) (Or.inl (show (4 : Nat) ≠ 1 from by decide)))).trans (h.p2 a b hb)
  · exact fun a t ht => (va_up_ne _ _ (ow_ne (h.oa a t ht) (h.ok (5 + 8 * i0) (by omega)) (Or.inl (show (5 : Nat) ≠ 1 from by decide)))).trans (h.a0 a t ht)
theorem CM.setE (h : CM G k own n z D f) {i0 : Nat} (hi0 : i0 < 3) {q : Int32 × Int32} (ef : f2 = va_up f (k (5 + 8 * i0 + 1)) (some (.inr (4, [.ref (k (5 + 8 * i0 + 2)), .int q.1, .int q.2, .ref (k (5 + 8 * i0 + 3)), .ref (k (5 + 8 * i0 + 4))])))) : CM G k own n z (dE D i0 q) f2 := by
  subst ef
  refine ⟨?_, ?_, ?_, ?_, ?_, ?_, ?_, ?_, ?_, ?_, ?_, ?_, ?_, ?_, ?_, ?_, ?_, ?_, ?_, h.ok, h.ob, h.oa, h.bq⟩
  · exact (va_up_ne _ _ (ow_ne (h.ok 0 (by omega)) (h.ok (5 + 8 * i0 + 1) (by omega)) (Or.inr (by omega)))).trans (h.c0)
  · exact (va_up_ne _ _ (ow_ne (h.ok 1 (by omega)) (h.ok (5 + 8 * i0 + 1) (by omega)) (Or.inr (by omega)))).trans (h.c1)
  · exact (va_up_ne _ _ (ow_ne (h.ok 2 (by omega)) (h.ok (5 + 8 * i0 + 1) (by omega)) (Or.inr (by omega)))).trans (h.c2)
  · exact (va_up_ne _ _ (ow_ne (h.ok 3 (by omega)) (h.ok (5 + 8 * i0 + 1) (by omega)) (Or.inr (by omega)))).trans (h.c3)
  · exact (va_up_ne _ _ (ow_ne (h.ok 4 (by omega)) (h.ok (5 + 8 * i0 + 1) (by omega)) (Or.inr (by omega)))).trans (h.c4)
  · exact fun i hi => (va_up_ne _ _ (ow_ne (h.ok (5 + 8 * i) (by omega)) (h.ok (5 + 8 * i0 + 1) (by omega)) (Or.inr (by omega)))).trans (h.r0 i hi)
  · exact fun i hi => (Decidable.em (i = i0)).elim (fun q_ => by subst q_; rw [va_up_self, eD_s]) (fun q_ => by rw [va_up_ne _ _ (h.ne (by omega) (by omega) (by omega)), eD_n q_]; exact h.r1 i hi)
  · exact fun i hi => (va_up_ne _ _ (ow_ne (h.ok (5 + 8 * i + 2) (by omega)) (h.ok (5 + 8 * i0 + 1) (by omega)) (Or.inr (by omega)))).trans (h.r2 i hi)
  · exact fun i hi => (va_up_ne _ _ (ow_ne (h.ok (5 + 8 * i + 3) (by omega)) (h.ok (5 + 8 * i0 + 1) (by omega)) (Or.inr (by omega)))).trans (h.r3 i hi)
  · exact fun i hi => (va_up_ne _ _ (ow_ne (h.ok (5 + 8 * i + 4) (by omega)) (h.ok (5 + 8 * i0 + 1) (by omega)) (Or.inr (by omega)))).trans (h.r4 i hi)
  · exact fun i hi => (va_up_ne _ _ (ow_ne (h.ok (5 + 8 * i + 5) (by omega)) (h.ok (5 + 8 * i0 + 1) (by omega)) (Or.inr (by omega)))).trans (h.r5 i hi)
  · exact fun i hi => (va_up_ne _ _ (ow_ne (h.ok (5 + 8 * i + 6) (by omega)) (h.ok (5 + 8 * i0 + 1) (by omega)) (Or.inr (by omega)))).trans (h.r6 i hi)
  · exact fun i hi => (va_up_ne _ _ (ow_ne (h.ok (5 + 8 * i + 7) (by omega)) (h.ok (5 + 8 * i0 + 1) (by omega)) (Or.inr (by omega)))).trans (h.r7 i hi)
  · exact fun b hb => (va_up_ne _ _ (ow_ne (h.ok (29 + 2 * b) (by omega)) (h.ok (5 + 8 * i0 + 1) (by omega)) (Or.inr (by omega)))).trans (h.b0 b hb)
  · exact fun b hb => (va_up_ne _ _ (ow_ne (h.ok (29 + 2 * b + 1) (by omega)) (h.ok (5 + 8 * i0 + 1) (by omega)) (Or.inr (by omega)))).trans (h.b1 b hb)
  · exact fun a b hb => (va_up_ne _ _ (ow_ne (h.ob a b hb).1 (h.ok (5 + 8 * i0 + 1) (by omega)) (Or.inl (show (2 : Nat) ≠ 1 from by decide)))).trans (h.p0 a b hb)
  · exact fun a b hb => (va_up_ne _ _ (ow_ne (h.ob a b hb).2.1 (h.ok (5 + 8 * i0 + 1) (by omega)) (Or.inl (show (3 : Nat) ≠ 1 from by decide)))).trans (h.p1 a b hb)
  · exact fun a b hb => (va_up_ne _ _ (ow_ne (h.ob a b hb).2.2 (h.ok (5 + 8 * i0 + 1) (by omega)) (Or.inl (show (4 : Nat) ≠ 1 from by decide)))).trans (h.p2 a b hb)
  · exact fun a t ht => (va_up_ne _ _ (ow_ne (h.oa a t ht) (h.ok (5 + 8 * i0 + 1) (by omega)) (Or.inl (show (5 : Nat) ≠ 1 from by decide)))).trans (h.a0 a t ht)
theorem CM.setI2 (h : CM G k own n z D f) {i0 : Nat} (hi0 : i0 < 3) {g : Nat → Int32} (ef : f2 = va_up f (k (5 + 8 * i0 + 2)) (some (.inl (gk G 0, 384, .inl g)))) : CM G k own n z (dI D (5 + 8 * i0 + 2) g) f2 := by
  subst ef
  refine ⟨?_, ?_, ?_, ?_, ?_, ?_, ?_, ?_, ?_, ?_, ?_, ?_, ?_, ?_, ?_, ?_, ?_, ?_, ?_, h.ok, h.ob, h.oa, h.bq⟩
  · exact (va_up_ne _ _ (ow_ne (h.ok 0 (by omega)) (h.ok (5 + 8 * i0 + 2) (by omega)) (Or.inr (by omega)))).trans (h.c0)
  · exact (va_up_ne _ _ (ow_ne (h.ok 1 (by omega)) (h.ok (5 + 8 * i0 + 2) (by omega)) (Or.inr (by omega)))).trans (h.c1)
  · exact (va_up_ne _ _ (ow_ne (h.ok 2 (by omega)) (h.ok (5 + 8 * i0 + 2) (by omega)) (Or.inr (by omega)))).trans (h.c2)
  · exact (by rw [va_up_ne _ _ (h.ne (by omega) (by omega) (by omega)), ID_n (by omega)]; exact h.c3)
  · exact (by rw [va_up_ne _ _ (h.ne (by omega) (by omega) (by omega)), ID_n (by omega)]; exact h.c4)
  · exact fun i hi => (va_up_ne _ _ (ow_ne (h.ok (5 + 8 * i) (by omega)) (h.ok (5 + 8 * i0 + 2) (by omega)) (Or.inr (by omega)))).trans (h.r0 i hi)
  · exact fun i hi => (va_up_ne _ _ (ow_ne (h.ok (5 + 8 * i + 1) (by omega)) (h.ok (5 + 8 * i0 + 2) (by omega)) (Or.inr (by omega)))).trans (h.r1 i hi)
  · exact fun i hi => (Decidable.em (i = i0)).elim (fun q_ => by subst q_; rw [va_up_self, ID_s]) (fun q_ => by rw [va_up_ne _ _ (h.ne (by omega) (by omega) (by omega)), ID_n (by omega)]; exact h.r2 i hi)
  · exact fun i hi => (by rw [va_up_ne _ _ (h.ne (by omega) (by omega) (by omega)), ID_n (by omega)]; exact h.r3 i hi)
  · exact fun i hi => (by rw [va_up_ne _ _ (h.ne (by omega) (by omega) (by omega)), ID_n (by omega)]; exact h.r4 i hi)
  · exact fun i hi => (va_up_ne _ _ (ow_ne (h.ok (5 + 8 * i + 5) (by omega)) (h.ok (5 + 8 * i0 + 2) (by omega)) (Or.inr (by omega)))).trans (h.r5 i hi)
  · exact fun i hi => (by rw [va_up_ne _ _ (h.ne (by omega) (by omega) (by omega)), ID_n (by omega)]; exact h.r6 i hi)
  · exact fun i hi => (va_up_ne _ _ (ow_ne (h.ok (5 + 8 * i + 7) (by omega)) (h.ok (5 + 8 * i0 + 2) (by omega)) (Or.inr (by omega)))).trans (h.r7 i hi)
  · exact fun b hb => (va_up_ne _ _ (ow_ne (h.ok (29 + 2 * b) (by omega)) (h.ok (5 + 8 * i0 + 2) (by omega)) (Or.inr (by omega)))).trans (h.b0 b hb)
  · exact fun b hb => (va_up_ne _ _ (ow_ne (h.ok (29 + 2 * b + 1) (by omega)) (h.ok (5 + 8 * i0 + 2) (by omega)) (Or.inr (by omega)))).trans (h.b1 b hb)
  · exact fun a b hb => (va_up_ne _ _ (ow_ne (h.ob a b hb).1 (h.ok (5 + 8 * i0 + 2) (by omega)) (Or.inl (show (2 : Nat) ≠ 1 from by decide)))).trans (h.p0 a b hb)
  · exact fun a b hb => (va_up_ne _ _ (ow_ne (h.ob a b hb).2.1 (h.ok (5 + 8 * i0 + 2) (by omega)) (Or.inl (show (3 : Nat) ≠ 1 from by decide)))).trans (h.p1 a b hb)
  · exact fun a b hb => (va_up_ne _ _ (ow_ne (h.ob a b hb).2.2 (h.ok (5 + 8 * i0 + 2) (by omega)) (Or.inl (show (4 : Nat) ≠ 1 from by decide)))).trans (h.p2 a b hb)
  · exact fun a t ht => (va_up_ne _ _ (ow_ne (h.oa a t ht) (h.ok (5 + 8 * i0 + 2) (by omega)) (Or.inl (show (5 : Nat) ≠ 1 from by decide)))).trans (h.a0 a t ht)
theorem CM.setI3 (h : CM G k own n z D f) {i0 : Nat} (hi0 : i0 < 3) {g : Nat → Int32} (ef : f2 = va_up f (k (5 + 8 * i0 + 3)) (some (.inl (gk G 0, 24, .inl g)))) : CM G k own n z (dI D (5 + 8 * i0 + 3) g) f2 := by
  subst ef
  refine ⟨?_, ?_, ?_, ?_, ?_, ?_, ?_, ?_, ?_, ?_, ?_, ?_, ?_, ?_, ?_, ?_, ?_, ?_, ?_, h.ok, h.ob, h.oa, h.bq⟩
  · exact (va_up_ne _ _ (ow_ne (h.ok 0 (by omega)) (h.ok (5 + 8 * i0 + 3) (by omega)) (Or.inr (by omega)))).trans (h.c0)
  · exact (va_up_ne _ _ (ow_ne (h.ok 1 (by omega)) (h.ok (5 + 8 * i0 + 3) (by omega)) (Or.inr (by omega)))).trans (h.c1)
  · exact (va_up_ne _ _ (ow_ne (h.ok 2 (by omega)) (h.ok (5 + 8 * i0 + 3) (by omega)) (Or.inr (by omega)))).trans (h.c2)
  · exact (by rw [va_up_ne _ _ (h.ne (by omega) (by omega) (by omega)), ID_n (by omega)]; exact h.c3)
  · exact (by rw [va_up_ne _ _ (h.ne (by omega) (by omega) (by omega)), ID_n (by omega)]; exact h.c4)
  · exact fun i hi => (va_up_ne _ _ (ow_ne (h.ok (5 + 8 * i) (by omega)) (h.ok (5 + 8 * i0 + 3) (by omega)) (Or.inr (by omega)))).trans (h.r0 i hi)
  · exact fun i hi => (va_up_ne _ _ (ow_ne (h.ok (5 + 8 * i + 1) (by omega)) (h.ok (5 + 8 * i0 + 3) (by omega)) (Or.inr (by omega)))).trans (h.r1 i hi)
  · exact fun i hi => (by rw [va_up_ne _ _ (h.ne (by omega) (by omega) (by omega)), ID_n (by omega)]; exact h.r2 i hi)
  · exact fun i hi => (Decidable.em (i = i0)).elim (fun q_ => by subst q_; rw [va_up_self, ID_s]) (fun q_ => by rw [va_up_ne _ _ (h.ne (by omega) (by omega) (by omega)), ID_n (by omega)]; exact h.r3 i hi)
  · exact fun i hi => (by rw [va_up_ne _ _ (h.ne (by omega) (by omega) (by omega)), ID_n (by omega)]; exact h.r4 i hi)
  · exact fun i hi => (va_up_ne _ _ (ow_ne (h.ok (5 + 8 * i + 5) (by omega)) (h.ok (5 + 8 * i0 + 3) (by omega)) (Or.inr (by omega)))).trans (h.r5 i hi)
  · exact fun i hi => (by rw [va_up_ne _ _ (h.ne (by omega) (by omega) (by omega)), ID_n (by omega)]; exact h.r6 i hi)
  · exact fun i hi => (va_up_ne _ _ (ow_ne (h.ok (5 + 8 * i + 7) (by omega)) (h.ok (5 + 8 * i0 + 3) (by omega)) (Or.inr (by omega)))).trans (h.r7 i hi)
  · exact fun b hb => (va_up_ne _ _ (ow_ne (h.ok (29 + 2 * b) (by omega)) (h.ok (5 + 8 * i0 + 3) (by omega)) (Or.inr (by omega)))).trans (h.b0 b hb)
  · exact fun b hb => (va_up_ne _ _ (ow_ne (h.ok (29 + 2 * b + 1) (by omega)) (h.ok (5 + 8 * i0 + 3) (by omega)) (Or.inr (by omega)))).trans (h.b1 b hb)
  · exact fun a b hb => (va_up_ne _ _ (ow_ne (h.ob a b hb).1 (h.ok (5 + 8 * i0 + 3) (by omega)) (Or.inl (show (2 : Nat) ≠ 1 from by decide)))).trans (h.p0 a b hb)
  · exact fun a b hb => (va_up_ne _ _ (ow_ne (h.ob a b hb).2.1 (h.ok (5 + 8 * i0 + 3) (by omega)) (Or.inl (show (3 : Nat) ≠ 1 from by decide)))).trans (h.p1 a b hb)
  · exact fun a b hb => (va_up_ne _ _ (ow_ne (h.ob a b hb).2.2 (h.ok (5 + 8 * i0 + 3) (by omega)) (Or.inl (show (4 : Nat) ≠ 1 from by decide)))).trans (h.p2 a b hb)
  · exact fun a t ht => (va_up_ne _ _ (ow_ne (h.oa a t ht) (h.ok (5 + 8 * i0 + 3) (by omega)) (Or.inl (show (5 : Nat) ≠ 1 from by decide)))).trans (h.a0 a t ht)
theorem CM.setI4 (h : CM G k own n z D f) {i0 : Nat} (hi0 : i0 < 3) {g : Nat → Int32} (ef : f2 = va_up f (k (5 + 8 * i0 + 4)) (some (.inl (gk G 0, 24, .inl g)))) : CM G k own n z (dI D (5 + 8 * i0 + 4) g) f2 := by
  subst ef
  refine ⟨?_, ?_, ?_, ?_, ?_, ?_, ?_, ?_, ?_, ?_, ?_, ?_, ?_, ?_, ?_, ?_, ?_, ?_, ?_, h.ok, h.ob, h.oa, h.bq⟩
  · exact (va_up_ne _ _ (ow_ne (h.ok 0 (by omega)) (h.ok (5 + 8 * i0 + 4) (by omega)) (Or.inr (by omega)))).trans (h.c0)
  · exact (va_up_ne _ _ (ow_ne (h.ok 1 (by omega)) (h.ok (5 + 8 * i0 + 4) (by omega)) (Or.inr (by omega)))).trans (h.c1)
  · exact (va_up_ne _ _ (ow_ne (h.ok 2 (by omega)) (h.ok (5 + 8 * i0 + 4) (by omega)) (Or.inr (by omega)))).trans (h.c2)
  · exact (by rw [va_up_ne _ _ (h.ne (by omega) (by omega) (by omega)), ID_n (by omega)]; exact h.c3)
  · exact (by rw [va_up_ne _ _ (h.ne (by omega) (by omega) (by omega)), ID_n (by omega)]; exact h.c4)
  · exact fun i hi => (va_up_ne _ _ (ow_ne (h.ok (5 + 8 * i) (by omega)) (h.ok (5 + 8 * i0 + 4) (by omega)) (Or.inr (by omega)))).trans (h.r0 i hi)
  · exact fun i hi => (va_up_ne _ _ (ow_ne (h.ok (5 + 8 * i + 1) (by omega)) (h.ok (5 + 8 * i0 + 4) (by omega)) (Or.inr (by omega)))).trans (h.r1 i hi)
  · exact fun i hi => (by rw [va_up_ne _ _ (h.ne (by omega) (by omega) (by omega)), ID_n (by omega)]; exact h.r2 i hi)
  · exact fun i hi => (by rw [va_up_ne _ _ (h.ne (by omega) (by omega) (by omega)), ID_n (by omega)]; exact h.r3 i hi)
  · exact fun i hi => (Decidable.em (i = i0)).elim (fun q_ => by subst q_; rw [va_up_self, ID_s]) (fun q_ => by rw [va_up_ne _ _ (h.ne (by omega) (by omega) (by omega)), ID_n (by omega)]; exact h.r4 i hi)
  · exact fun i hi => (va_up_ne _ _ (ow_ne (h.ok (5 + 8 * i + 5) (by omega)) (h.ok (5 + 8 * i0 + 4) (by omega)) (Or.inr (by omega)))).trans (h.r5 i hi)
  · exact fun i hi => (by rw [va_up_ne _ _ (h.ne (by omega) (by omega) (by omega)), ID_n (by omega)]; exact h.r6 i hi)
  · exact fun i hi => (va_up_ne _ _ (ow_ne (h.ok (5 + 8 * i + 7) (by omega)) (h.ok (5 + 8 * i0 + 4) (by omega)) (Or.inr (by omega)))).trans (h.r7 i hi)
  · exact fun b hb => (va_up_ne _ _ (ow_ne (h.ok (29 + 2 * b) (by omega)) (h.ok (5 + 8 * i0 + 4) (by omega)) (Or.inr (by omega)))).trans (h.b0 b hb)
  · exact fun b hb => (va_up_ne _ _ (ow_ne (h.ok (29 + 2 * b + 1) (by omega)) (h.ok (5 + 8 * i0 + 4) (by omega)) (Or.inr (by omega)))).trans (h.b1 b hb)
  · exact fun a b hb => (va_up_ne _ _ (ow_ne (h.ob a b hb).1 (h.ok (5 + 8 * i0 + 4) (by omega)) (Or.inl (show (2 : Nat) ≠ 1 from by decide)))).trans (h.p0 a b hb)
  · exact fun a b hb => (va_up_ne _ _ (ow_ne (h.ob a b hb).2.1 (h.ok (5 + 8 * i0 + 4) (by omega)) (Or.inl (show (3 : Nat) ≠ 1 from by decide)))).trans (h.p1 a b hb)
  · exact fun a b hb => (va_up_ne _ _ (ow_ne (h.ob a b hb).2.2 (h.ok (5 + 8 * i0 + 4) (by omega)) (Or.inl (show (4 : Nat) ≠ 1 from by decide)))).trans (h.p2 a b hb)
  · exact fun a t ht => (va_up_ne _ _ (ow_ne (h.oa a t ht) (h.ok (5 + 8 * i0 + 4) (by omega)) (Or.inl (show (5 : Nat) ≠ 1 from by decide)))).trans (h.a0 a t ht)
theorem CM.setI6 (h : CM G k own n z D f) {i0 : Nat} (hi0 : i0 < 3) {g : Nat → Int32} (ef : f2 = va_up f (k (5 + 8 * i0 + 6)) (some (.inl (gk G 0, 4, .inl g)))) : CM G k own n z (dI D (5 + 8 * i0 + 6) g) f2 := by
  subst ef
  refine ⟨?_, ?_, ?_, ?_, ?_, ?_, ?_, ?_, ?_, ?_, ?_, ?_, ?_, ?_, ?_, ?_, ?_, ?_, ?_, h.ok, h.ob, h.oa, h.bq⟩
  · exact (va_up_ne _ _ (ow_ne (h.ok 0 (by omega)) (h.ok (5 + 8 * i0 + 6) (by omega)) (Or.inr (by omega)))).trans (h.c0)
  · exact (va_up_ne _ _ (ow_ne (h.ok 1 (by omega)) (h.ok (5 + 8 * i0 + 6) (by omega)) (Or.inr (by omega)))).trans (h.c1)
  · exact (va_up_ne _ _ (ow_ne (h.ok 2 (by omega)) (h.ok (5 + 8 * i0 + 6) (by omega)) (Or.inr (by omega)))).trans (h.c2)
  · exact (by rw [va_up_ne _ _ (h.ne (by omega) (by omega) (by omega)), ID_n (by omega)]; exact h.c3)
  · exact (by rw [va_up_ne _ _ (h.ne (by omega) (by omega) (by omega)), ID_n (by omega)]; exact h.c4)
  · exact fun i hi => (va_up_ne _ _ (ow_ne (h.ok (5 + 8 * i) (by omega)) (h.ok (5 + 8 * i0 + 6) (by omega)) (Or.inr (by omega)))).trans (h.r0 i hi)
  · exact fun i hi => (va_up_ne _ _ (ow_ne (h.ok (5 + 8 * i + 1) (by omega)) (h.ok (5 + 8 * i0 + 6) (by omega)) (Or.inr (by omega)))).trans (h.r1 i hi)
  · exact fun i hi => (by rw [va_up_ne _ _ (h.ne (by omega) (by omega) (by omega)), ID_n (by omega)]; exact h.r2 i hi)
  · exact fun i hi => (by rw [va_up_ne _ _ (h.ne (by omega) (by omega) (by omega)), ID_n (by omega)]; exact h.r3 i hi)
  · exact fun i hi => (by rw [va_up_ne _ _ (h.ne (by omega) (by omega) (by omega)), ID_n (by omega)]; exact h.r4 i hi)
  · exact fun i hi => (va_up_ne _ _ (ow_ne (h.ok (5 + 8 * i + 5) (by omega)) (h.ok (5 + 8 * i0 + 6) (by omega)) (Or.inr (by omega)))).trans (h.r5 i hi)
  · exact fun i hi => (Decidable.em (i = i0)).elim (fun q_ => by subst q_; rw [va_up_self, ID_s]) (fun q_ => by rw [va_up_ne _ _ (h.ne (by omega) (by omega) (by omega)), ID_n (by omega)]; exact h.r6 i hi)
  · exact fun i hi => (va_up_ne _ _ (ow_ne (h.ok (5 + 8 * i + 7) (by omega)) (h.ok (5 + 8 * i0 + 6) (by omega)) (Or.inr (by omega)))).trans (h.r7 i hi)
  · exact fun b hb => (va_up_ne _ _ (ow_ne (h.ok (29 + 2 * b) (by omega)) (h.ok (5 + 8 * i0 + 6) (by omega)) (Or.inr (by omega)))).trans (h.b0 b hb)
  · exact fun b hb => (va_up_ne _ _ (ow_ne (h.ok (29 + 2 * b + 1) (by omega)) (h.ok (5 + 8 * i0 + 6) (by omega)) (Or.inr (by omega)))).trans (h.b1 b hb)
  · exact fun a b hb => (va_up_ne _ _ (ow_ne (h.ob a b hb).1 (h.ok (5 + 8 * i0 + 6) (by omega)) (Or.inl (show (2 : Nat) ≠ 1 from by decide)))).trans (h.p0 a b hb)
  · exact fun a b hb => (va_up_ne _ _ (ow_ne (h.ob a b hb).2.1 (h.ok (5 + 8 * i0 + 6) (by omega)) (Or.inl (show (3 : Nat) ≠ 1 from by decide)))).trans (h.p1 a b hb)
  · exact fun a b hb => (va_up_ne _ _ (ow_ne (h.ob a b hb).2.2 (h.ok (5 + 8 * i0 + 6) (by omega)) (Or.inl (show (4 : Nat) ≠ 1 from by decide)))).trans (h.p2 a b hb)
  · exact fun a t ht => (va_up_ne _ _ (ow_ne (h.oa a t ht) (h.ok (5 + 8 * i0 + 6) (by omega)) (Or.inl (show (5 : Nat) ≠ 1 from by decide)))).trans (h.a0 a t ht)
theorem CM.setI_3 (h : CM G k own n z D f) {g : Nat → Int32} (ef : f2 = va_up f (k 3) (some (.inl (gk G 0, 192, .inl g)))) : CM G k own n z (dI D 3 g) f2 := by
  subst ef
  refine ⟨?_, ?_, ?_, ?_, ?_, ?_, ?_, ?_, ?_, ?_, ?_, ?_, ?_, ?_, ?_, ?_, ?_, ?_, ?_, h.ok, h.ob, h.oa, h.bq⟩
  · exact (va_up_ne _ _ (ow_ne (h.ok 0 (by omega)) (h.ok 3 (by omega)) (Or.inr (by omega)))).trans (h.c0)
  · exact (va_up_ne _ _ (ow_ne (h.ok 1 (by omega)) (h.ok 3 (by omega)) (Or.inr (by omega)))).trans (h.c1)
  · exact (va_up_ne _ _ (ow_ne (h.ok 2 (by omega)) (h.ok 3 (by omega)) (Or.inr (by omega)))).trans (h.c2)
  · rw [va_up_self, ID_s]
  · exact (by rw [va_up_ne _ _ (h.ne (by omega) (by omega) (by omega)), ID_n (by omega)]; exact h.c4)
  · exact fun i hi => (va_up_ne _ _ (ow_ne (h.ok (5 + 8 * i) (by omega)) (h.ok 3 (by omega)) (Or.inr (by omega)))).trans (h.r0 i hi)
  · exact fun i hi => (va_up_ne _ _ (ow_ne (h.ok (5 + 8 * i + 1) (by omega)) (h.ok 3 (by omega)) (Or.inr (by omega)))).trans (h.r1 i hi)
  · exact fun i hi => (by rw [va_up_ne _ _ (h.ne (by omega) (by omega) (by omega)), ID_n (by omega)]; exact h.r2 i hi)
  · exact fun i hi => (by rw [va_up_ne _ _ (h.ne (by omega) (by omega) (by omega)), ID_n (by omega)]; exact h.r3 i hi)
  · exact fun i hi => (by rw [va_up_ne _ _ (h.ne (by omega) (by omega) (by omega)), ID_n (by omega)]; exact h.r4 i hi)
  · exact fun i hi => (va_up_ne _ _ (ow_ne (h.ok (5 + 8 * i + 5) (by omega)) (h.ok 3 (by omega)) (Or.inr (by omega)))).trans (h.r5 i hi)
  · exact fun i hi => (by rw [va_up_ne _ _ (h.ne (by omega) (by omega) (by omega)), ID_n (by omega)]; exact h.r6 i hi)
  · exact fun i hi => (va_up_ne _ _ (ow_ne (h.ok (5 + 8 * i + 7) (by omega)) (h.ok 3 (by omega)) (Or.inr (by omega)))).trans (h.r7 i hi)
  · exact fun b hb => (va_up_ne _ _ (ow_ne (h.ok (29 + 2 * b) (by omega)) (h.ok 3 (by omega)) (Or.inr (by omega)))).trans (h.b0 b hb)
  · exact fun b hb => (va_up_ne _ _ (ow_ne (h.ok (29 + 2 * b + 1) (by omega)) (h.ok 3 (by omega)) (Or.inr (by omega)))).trans (h.b1 b hb)
  · exact fun a b hb => (va_up_ne _ _ (ow_ne (h.ob a b hb).1 (h.ok 3 (by omega)) (Or.inl (show (2 : Nat) ≠ 1 from by decide)))).trans (h.p0 a b hb)
  · exact fun a b hb => (va_up_ne _ _ (ow_ne (h.ob a b hb).2.1 (h.ok 3 (by omega)) (Or.inl (show (3 : Nat) ≠ 1 from by decide)))).trans (h.p1 a b hb)
  · exact fun a b hb => (va_up_ne _ _ (ow_ne (h.ob a b hb).2.2 (h.ok 3 (by omega)) (Or.inl (show (4 : Nat) ≠ 1 from by decide)))).trans (h.p2 a b hb)
  · exact fun a t ht => (va_up_ne _ _ (ow_ne (h.oa a t ht) (h.ok 3 (by omega)) (Or.inl (show (5 : Nat) ≠ 1 from by decide)))).trans (h.a0 a t ht)
theorem CM.setI_4 (h : CM G k own n z D f) {g : Nat → Int32} (ef : f2 = va_up f (k 4) (some (.inl (gk G 0, 192, .inl g)))) : CM G k own n z (dI D 4 g) f2 := by
  subst ef
  refine ⟨?_, ?_, ?_, ?_, ?_, ?_, ?_, ?_, ?_, ?_, ?_, ?_, ?_, ?_, ?_, ?_, ?_, ?_, ?_, h.ok, h.ob, h.oa, h.bq⟩
  · exact (va_up_ne _ _ (ow_ne (h.ok 0 (by omega)) (h.ok 4 (by omega)) (Or.inr (by omega)))).trans (h.c0)
  · exact (va_up_ne _ _ (ow_ne (h.ok 1 (by omega)) (h.ok 4 (by omega)) (Or.inr (by omega)))).trans (h.c1)
  · exact (va_up_ne _ _ (ow_ne (h.ok 2 (by omega)) (h.ok 4 (by omega)) (Or.inr (by omega)))).trans (h.c2)
  · exact (by rw [va_up_ne _ _ (h.ne (by omega) (by omega) (by omega)), ID_n (by omega)]; exact h.c3)
  · rw [va_up_self, ID_s]
  · exact fun i hi => (va_up_ne _ _ (ow_ne (h.ok (5 + 8 * i) (by omega)) (h.ok 4 (by omega)) (Or.inr (by omega)))).trans (h.r0 i hi)
  · exact fun i hi => (va_up_ne _ _ (ow_ne (h.ok (5 + 8 * i + 1) (by omega)) (h.ok 4 (by omega)) (Or.inr (by omega)))).trans (h.r1 i hi)
  · exact fun i hi => (by rw [va_up_ne _ _ (h.ne (by omega) (by omega) (by omega)), ID_n (by omega)]; exact h.r2 i hi)
  · exact fun i hi => (by rw [va_up_ne _ _ (h.ne (by omega) (by omega) (by omega)), ID_n (by omega)]; exact h.r3 i hi)
  · exact fun i hi => (by rw [va_up_ne _ _ (h.ne (by omega) (by omega) (by omega)), ID_n (by omega)]; exact h.r4 i hi)
  · exact fun i hi => (va_up_ne _ _ (ow_ne (h.ok (5 + 8 * i + 5) (by omega)) (h.ok 4 (by omega)) (Or.inr (by omega)))).trans (h.r5 i hi)
  · exact fun i hi => (by rw [va_up_ne _ _ (h.ne (by omega) (by omega) (by omega)), ID_n (by omega)]; exact h.r6 i hi)
  · exact fun i hi => (va_up_ne _ _ (ow_ne (h.ok (5 + 8 * i + 7) (by omega)) (h.ok 4 (by omega)) (Or.inr (by omega)))).trans (h.r7 i hi)
  · exact fun b hb => (va_up_ne _ _ (ow_ne (h.ok (29 + 2 * b) (by omega)) (h.ok 4 (by omega)) (Or.inr (by omega)))).trans (h.b0 b hb)
  · exact fun b hb => (va_up_ne _ _ (ow_ne (h.ok (29 + 2 * b + 1) (by omega)) (h.ok 4 (by omega)) (Or.inr (by omega)))).trans (h.b1 b hb)
  · exact fun a b hb => (va_up_ne _ _ (ow_ne (h.ob a b hb).1 (h.ok 4 (by omega)) (Or.inl (show (2 : Nat) ≠ 1 from by decide)))).trans (h.p0 a b hb)
  · exact fun a b hb => (va_up_ne _ _ (ow_ne (h.ob a b hb).2.1 (h.ok 4 (by omega)) (Or.inl (show (3 : Nat) ≠ 1 from by decide)))).trans (h.p1 a b hb)
  · exact fun a b hb => (va_up_ne _ _ (ow_ne (h.ob a b hb).2.2 (h.ok 4 (by omega)) (Or.inl (show (4 : Nat) ≠ 1 from by decide)))).trans (h.p2 a b hb)
  · exact fun a t ht => (va_up_ne _ _ (ow_ne (h.oa a t ht) (h.ok 4 (by omega)) (Or.inl (show (5 : Nat) ≠ 1 from by decide)))).trans (h.a0 a t ht)
theorem CM.setJ (h : CM G k own n z D f) {i0 : Nat} (hi0 : i0 < 3) {g : Nat → Int64} (ef : f2 = va_up f (k (5 + 8 * i0 + 7)) (some (.inl (gk G 1, 4, .inr (.inl g))))) : CM G k own n z (dJ D (5 + 8 * i0 + 7) g) f2 := by
  subst ef
  refine ⟨?_, ?_, ?_, ?_, ?_, ?_, ?_, ?_, ?_, ?_, ?_, ?_, ?_, ?_, ?_, ?_, ?_, ?_, ?_, h.ok, h.ob, h.oa, h.bq⟩
  · exact (va_up_ne _ _ (ow_ne (h.ok 0 (by omega)) (h.ok (5 + 8 * i0 + 7) (by omega)) (Or.inr (by omega)))).trans (h.c0)
  · exact (va_up_ne _ _ (ow_ne (h.ok 1 (by omega)) (h.ok (5 + 8 * i0 + 7) (by omega)) (Or.inr (by omega)))).trans (h.c1)
  · exact (va_up_ne _ _ (ow_ne (h.ok 2 (by omega)) (h.ok (5 + 8 * i0 + 7) (by omega)) (Or.inr (by omega)))).trans (h.c2)
  · exact (va_up_ne _ _ (ow_ne (h.ok 3 (by omega)) (h.ok (5 + 8 * i0 + 7) (by omega)) (Or.inr (by omega)))).trans (h.c3)
  · exact (va_up_ne _ _ (ow_ne (h.ok 4 (by omega)) (h.ok (5 + 8 * i0 + 7) (by omega)) (Or.inr (by omega)))).trans (h.c4)
  · exact fun i hi => (va_up_ne _ _ (ow_ne (h.ok (5 + 8 * i) (by omega)) (h.ok (5 + 8 * i0 + 7) (by omega)) (Or.inr (by omega)))).trans (h.r0 i hi)
  · exact fun i hi => (va_up_ne _ _ (ow_ne (h.ok (5 + 8 * i + 1) (by omega)) (h.ok (5 + 8 * i0 + 7) (by omega)) (Or.inr (by omega)))).trans (h.r1 i hi)
  · exact fun i hi => (va_up_ne _ _ (ow_ne (h.ok (5 + 8 * i + 2) (by omega)) (h.ok (5 + 8 * i0 + 7) (by omega)) (Or.inr (by omega)))).trans (h.r2 i hi)
  · exact fun i hi => (va_up_ne _ _ (ow_ne (h.ok (5 + 8 * i + 3) (by omega)) (h.ok (5 + 8 * i0 + 7) (by omega)) (Or.inr (by omega)))).trans (h.r3 i hi)
  · exact fun i hi => (va_up_ne _ _ (ow_ne (h.ok (5 + 8 * i + 4) (by omega)) (h.ok (5 + 8 * i0 + 7) (by omega)) (Or.inr (by omega)))).trans (h.r4 i hi)
  · exact fun i hi => (va_up_ne _ _ (ow_ne (h.ok (5 + 8 * i + 5) (by omega)) (h.ok (5 + 8 * i0 + 7) (by omega)) (Or.inr (by omega)))).trans (h.r5 i hi)
  · exact fun i hi => (va_up_ne _ _ (ow_ne (h.ok (5 + 8 * i + 6) (by omega)) (h.ok (5 + 8 * i0 + 7) (by omega)) (Or.inr (by omega)))).trans (h.r6 i hi)
  · exact fun i hi => (Decidable.em (i = i0)).elim (fun q_ => by subst q_; rw [va_up_self, JD_s]) (fun q_ => by rw [va_up_ne _ _ (h.ne (by omega) (by omega) (by omega)), JD_n (by omega)]; exact h.r7 i hi)
  · exact fun b hb => (va_up_ne _ _ (ow_ne (h.ok (29 + 2 * b) (by omega)) (h.ok (5 + 8 * i0 + 7) (by omega)) (Or.inr (by omega)))).trans (h.b0 b hb)
  · exact fun b hb => (va_up_ne _ _ (ow_ne (h.ok (29 + 2 * b + 1) (by omega)) (h.ok (5 + 8 * i0 + 7) (by omega)) (Or.inr (by omega)))).trans (h.b1 b hb)
  · exact fun a b hb => (va_up_ne _ _ (ow_ne (h.ob a b hb).1 (h.ok (5 + 8 * i0 + 7) (by omega)) (Or.inl (show (2 : Nat) ≠ 1 from by decide)))).trans (h.p0 a b hb)
  · exact fun a b hb => (va_up_ne _ _ (ow_ne (h.ob a b hb).2.1 (h.ok (5 + 8 * i0 + 7) (by omega)) (Or.inl (show (3 : Nat) ≠ 1 from by decide)))).trans (h.p1 a b hb)
  · exact fun a b hb => (va_up_ne _ _ (ow_ne (h.ob a b hb).2.2 (h.ok (5 + 8 * i0 + 7) (by omega)) (Or.inl (show (4 : Nat) ≠ 1 from by decide)))).trans (h.p2 a b hb)
  · exact fun a t ht => (va_up_ne _ _ (ow_ne (h.oa a t ht) (h.ok (5 + 8 * i0 + 7) (by omega)) (Or.inl (show (5 : Nat) ≠ 1 from by decide)))).trans (h.a0 a t ht)
theorem CM.setQ5 (h : CM G k own n z D f) {i0 : Nat} (hi0 : i0 < 3) {g : Nat → Option Nat} (ef : f2 = va_up f (k (5 + 8 * i0 + 5)) (some (.inl (gk G 3, 24, .inr (.inr (.inr (.inr g))))))) : CM G k own n z (dQ D (5 + 8 * i0 + 5) g) f2 := by
  subst ef
  refine ⟨?_, ?_, ?_, ?_, ?_, ?_, ?_, ?_, ?_, ?_, ?_, ?_, ?_, ?_, ?_, ?_, ?_, ?_, ?_, h.ok, h.ob, h.oa, fun b hb => (by rw [QD_n (by omega)]; exact h.bq b hb)⟩
  · exact (va_up_ne _ _ (ow_ne (h.ok 0 (by omega)) (h.ok (5 + 8 * i0 + 5) (by omega)) (Or.inr (by omega)))).trans (h.c0)
  · exact (by rw [va_up_ne _ _ (h.ne (by omega) (by omega) (by omega)), QD_n (by omega)]; exact h.c1)
  · exact (by rw [va_up_ne _ _ (h.ne (by omega) (by omega) (by omega)), QD_n (by omega)]; exact h.c2)
  · exact (va_up_ne _ _ (ow_ne (h.ok 3 (by omega)) (h.ok (5 + 8 * i0 + 5) (by omega)) (Or.inr (by omega)))).trans (h.c3)
  · exact (va_up_ne _ _ (ow_ne (h.ok 4 (by omega)) (h.ok (5 + 8 * i0 + 5) (by omega)) (Or.inr (by omega)))).trans (h.c4)
  · exact fun i hi => (va_up_ne _ _ (ow_ne (h.ok (5 + 8 * i) (by omega)) (h.ok (5 + 8 * i0 + 5) (by omega)) (Or.inr (by omega)))).trans (h.r0 i hi)
  · exact fun i hi => (va_up_ne _ _ (ow_ne (h.ok (5 + 8 * i + 1) (by omega)) (h.ok (5 + 8 * i0 + 5) (by omega)) (Or.inr (by omega)))).trans (h.r1 i hi)
  · exact fun i hi => (va_up_ne _ _ (ow_ne (h.ok (5 + 8 * i + 2) (by omega)) (h.ok (5 + 8 * i0 + 5) (by omega)) (Or.inr (by omega)))).trans (h.r2 i hi)
  · exact fun i hi => (va_up_ne _ _ (ow_ne (h.ok (5 + 8 * i + 3) (by omega)) (h.ok (5 + 8 * i0 + 5) (by omega)) (Or.inr (by omega)))).trans (h.r3 i hi)
  · exact fun i hi => (va_up_ne _ _ (ow_ne (h.ok (5 + 8 * i + 4) (by omega)) (h.ok (5 + 8 * i0 + 5) (by omega)) (Or.inr (by omega)))).trans (h.r4 i hi)
  · exact fun i hi => (Decidable.em (i = i0)).elim (fun q_ => by subst q_; rw [va_up_self, QD_s]) (fun q_ => by rw [va_up_ne _ _ (h.ne (by omega) (by omega) (by omega)), QD_n (by omega)]; exact h.r5 i hi)
  · exact fun i hi => (va_up_ne _ _ (ow_ne (h.ok (5 + 8 * i + 6) (by omega)) (h.ok (5 + 8 * i0 + 5) (by omega)) (Or.inr (by omega)))).trans (h.r6 i hi)
  · exact fun i hi => (va_up_ne _ _ (ow_ne (h.ok (5 + 8 * i + 7) (by omega)) (h.ok (5 + 8 * i0 + 5) (by omega)) (Or.inr (by omega)))).trans (h.r7 i hi)
  · exact fun b hb => (va_up_ne _ _ (ow_ne (h.ok (29 + 2 * b) (by omega)) (h.ok (5 + 8 * i0 + 5) (by omega)) (Or.inr (by omega)))).trans (h.b0 b hb)
  · exact fun b hb => (by rw [va_up_ne _ _ (h.ne (by omega) (by omega) (by omega)), QD_n (by omega)]; exact h.b1 b hb)
  · exact fun a b hb => (va_up_ne _ _ (ow_ne (h.ob a b hb).1 (h.ok (5 + 8 * i0 + 5) (by omega)) (Or.inl (show (2 : Nat) ≠ 1 from by decide)))).trans (h.p0 a b hb)
  · exact fun a b hb => (va_up_ne _ _ (ow_ne (h.ob a b hb).2.1 (h.ok (5 + 8 * i0 + 5) (by omega)) (Or.inl (show (3 : Nat) ≠ 1 from by decide)))).trans (h.p1 a b hb)
  · exact fun a b hb => (va_up_ne _ _ (ow_ne (h.ob a b hb).2.2 (h.ok (5 + 8 * i0 + 5) (by omega)) (Or.inl (show (4 : Nat) ≠ 1 from by decide)))).trans (h.p2 a b hb)
  · exact fun a t ht => (va_up_ne _ _ (ow_ne (h.oa a t ht) (h.ok (5 + 8 * i0 + 5) (by omega)) (Or.inl (show (5 : Nat) ≠ 1 from by decide)))).trans (h.a0 a t ht)
theorem CM.setQ1 (h : CM G k own n z D f) {g : Nat → Option Nat} (ef : f2 = va_up f (k 1) (some (.inl (gk G 3, 24, .inr (.inr (.inr (.inr g))))))) : CM G k own n z (dQ D 1 g) f2 := by
  subst ef
  refine ⟨?_, ?_, ?_, ?_, ?_, ?_, ?_, ?_, ?_, ?_, ?_, ?_, ?_, ?_, ?_, ?_, ?_, ?_, ?_, h.ok, h.ob, h.oa, fun b hb => (by rw [QD_n (by omega)]; exact h.bq b hb)⟩
  · exact (va_up_ne _ _ (ow_ne (h.ok 0 (by omega)) (h.ok 1 (by omega)) (Or.inr (by omega)))).trans (h.c0)
  · rw [va_up_self, QD_s]
  · exact (by rw [va_up_ne _ _ (h.ne (by omega) (by omega) (by omega)), QD_n (by omega)]; exact h.c2)
  · exact (va_up_ne _ _ (ow_ne (h.ok 3 (by omega)) (h.ok 1 (by omega)) (Or.inr (by omega)))).trans (h.c3)
  · exact (va_up_ne _ _ (ow_ne (h.ok 4 (by omega)) (h.ok 1 (by omega)) (Or.inr (by omega)))).trans (h.c4)
  · exact fun i hi => (va_up_ne _ _ (ow_ne (h.ok (5 + 8 * i) (by omega)) (h.ok 1 (by omega)) (Or.inr (by omega)))).trans (h.r0 i hi)
  · exact fun i hi => (va_up_ne _ _ (ow_ne (h.ok (5 + 8 * i + 1) (by omega)) (h.ok 1 (by omega)) (Or.inr (by omega)))).trans (h.r1 i hi)
  · exact fun i hi => (va_up_ne _ _ (ow_ne (h.ok (5 + 8 * i + 2) (by omega)) (h.ok 1 (by omega)) (Or.inr (by omega)))).trans (h.r2 i hi)
  · exact fun i hi => (va_up_ne _ _ (ow_ne (h.ok (5 + 8 * i + 3) (by omega)) (h.ok 1 (by omega)) (Or.inr (by omega)))).trans (h.r3 i hi)
  · exact fun i hi => (va_up_ne _ _ (ow_ne (h.ok (5 + 8 * i + 4) (by omega)) (h.ok 1 (by omega)) (Or.inr (by omega)))).trans (h.r4 i hi)
  · exact fun i hi => (by rw [va_up_ne _ _ (h.ne (by omega) (by omega) (by omega)), QD_n (by omega)]; exact h.r5 i hi)
  · exact fun i hi => (va_up_ne _ _ (ow_ne (h.ok (5 + 8 * i + 6) (by omega)) (h.ok 1 (by omega)) (Or.inr (by omega)))).trans (h.r6 i hi)
  · exact fun i hi => (va_up_ne _ _ (ow_ne (h.ok (5 + 8 * i + 7) (by omega)) (h.ok 1 (by omega)) (Or.inr (by omega)))).trans (h.r7 i hi)
  · exact fun b hb => (va_up_ne _ _ (ow_ne (h.ok (29 + 2 * b) (by omega)) (h.ok 1 (by omega)) (Or.inr (by omega)))).trans (h.b0 b hb)
  · exact fun b hb => (by rw [va_up_ne _ _ (h.ne (by omega) (by omega) (by omega)), QD_n (by omega)]; exact h.b1 b hb)
  · exact fun a b hb => (va_up_ne _ _ (ow_ne (h.ob a b hb).1 (h.ok 1 (by omega)) (Or.inl (show (2 : Nat) ≠ 1 from by decide)))).trans (h.p0 a b hb)
  · exact fun a b hb => (va_up_ne _ _ (ow_ne (h.ob a b hb).2.1 (h.ok 1 (by omega)) (Or.inl (show (3 : Nat) ≠ 1 from by decide)))).trans (h.p1 a b hb)
  · exact fun a b hb => (va_up_ne _ _ (ow_ne (h.ob a b hb).2.2 (h.ok 1 (by omega)) (Or.inl (show (4 : Nat) ≠ 1 from by decide)))).trans (h.p2 a b hb)
  · exact fun a t ht => (va_up_ne _ _ (ow_ne (h.oa a t ht) (h.ok 1 (by omega)) (Or.inl (show (5 : Nat) ≠ 1 from by decide)))).trans (h.a0 a t ht)
theorem CM.setQa (h : CM G k own n z D f) {i0 : Nat} (hi0 : i0 < 6) {g : Nat → Option Nat} (ef : f2 = va_up f (k (29 + 2 * i0 + 1)) (some (.inl (gk G 5, 32, .inr (.inr (.inr (.inr g))))))) : CM G k own n z (dQ D (29 + 2 * i0 + 1) g) f2 := by
  subst ef
  refine ⟨?_, ?_, ?_, ?_, ?_, ?_, ?_, ?_, ?_, ?_, ?_, ?_, ?_, ?_, ?_, ?_, ?_, ?_, ?_, h.ok, h.ob, h.oa, fun b hb => (by rw [QD_n (by omega)]; exact h.bq b hb)⟩
  · exact (va_up_ne _ _ (ow_ne (h.ok 0 (by omega)) (h.ok (29 + 2 * i0 + 1) (by omega)) (Or.inr (by omega)))).trans (h.c0)
  · exact (by rw [va_up_ne _ _ (h.ne (by omega) (by omega) (by omega)), QD_n (by omega)]; exact h.c1)
  · exact (by rw [va_up_ne _ _ (h.ne (by omega) (by omega) (by omega)), QD_n (by omega)]; exact h.c2)
  · exact (va_up_ne _ _ (ow_ne (h.ok 3 (by omega)) (h.ok (29 + 2 * i0 + 1) (by omega)) (Or.inr (by omega)))).trans (h.c3)
  · exact (va_up_ne _ _ (ow_ne (h.ok 4 (by omega)) (h.ok (29 + 2 * i0 + 1) (by omega)) (Or.inr (by omega)))).trans (h.c4)
  · exact fun i hi => (va_up_ne _ _ (ow_ne (h.ok (5 + 8 * i) (by omega)) (h.ok (29 + 2 * i0 + 1) (by omega)) (Or.inr (by omega)))).trans (h.r0 i hi)
  · exact fun i hi => (va_up_ne _ _ (ow_ne (h.ok (5 + 8 * i + 1) (by omega)) (h.ok (29 + 2 * i0 + 1) (by omega)) (Or.inr (by omega)))).trans (h.r1 i hi)
  · exact fun i hi => (va_up_ne _ _ (ow_ne (h.ok (5 + 8 * i + 2) (by omega)) (h.ok (29 + 2 * i0 + 1) (by omega)) (Or.inr (by omega)))).trans (h.r2 i hi)
  · exact fun i hi => (va_up_ne _ _ (ow_ne (h.ok (5 + 8 * i + 3) (by omega)) (h.ok (29 + 2 * i0 + 1) (by omega)) (Or.inr (by omega)))).trans (h.r3 i hi)
  · exact fun i hi => (va_up_ne _ _ (ow_ne (h.ok (5 + 8 * i + 4) (by omega)) (h.ok (29 + 2 * i0 + 1) (by omega)) (Or.inr (by omega)))).trans (h.r4 i hi)
  · exact fun i hi => (by rw [va_up_ne _ _ (h.ne (by omega) (by omega) (by omega)), QD_n (by omega)]; exact h.r5 i hi)
  · exact fun i hi => (va_up_ne _ _ (ow_ne (h.ok (5 + 8 * i + 6) (by omega)) (h.ok (29 + 2 * i0 + 1) (by omega)) (Or.inr (by omega)))).trans (h.r6 i hi)
  · exact fun i hi => (va_up_ne _ _ (ow_ne (h.ok (5 + 8 * i + 7) (by omega)) (h.ok (29 + 2 * i0 + 1) (by omega)) (Or.inr (by omega)))).trans (h.r7 i hi)
  · exact fun b hb => (va_up_ne _ _ (ow_ne (h.ok (29 + 2 * b) (by omega)) (h.ok (29 + 2 * i0 + 1) (by omega)) (Or.inr (by omega)))).trans (h.b0 b hb)
  · exact fun b hb => (Decidable.em (b = i0)).elim (fun q_ => by subst q_; rw [va_up_self, QD_s]) (fun q_ => by rw [va_up_ne _ _ (h.ne (by omega) (by omega) (by omega)), QD_n (by omega)]; exact h.b1 b hb)
  · exact fun a b hb => (va_up_ne _ _ (ow_ne (h.ob a b hb).1 (h.ok (29 + 2 * i0 + 1) (by omega)) (Or.inl (show (2 : Nat) ≠ 1 from by decide)))).trans (h.p0 a b hb)
  · exact fun a b hb => (va_up_ne _ _ (ow_ne (h.ob a b hb).2.1 (h.ok (29 + 2 * i0 + 1) (by omega)) (Or.inl (show (3 : Nat) ≠ 1 from by decide)))).trans (h.p1 a b hb)
  · exact fun a b hb => (va_up_ne _ _ (ow_ne (h.ob a b hb).2.2 (h.ok (29 + 2 * i0 + 1) (by omega)) (Or.inl (show (4 : Nat) ≠ 1 from by decide)))).trans (h.p2 a b hb)
  · exact fun a t ht => (va_up_ne _ _ (ow_ne (h.oa a t ht) (h.ok (29 + 2 * i0 + 1) (by omega)) (Or.inl (show (5 : Nat) ≠ 1 from by decide)))).trans (h.a0 a t ht)
theorem CM.setZ (h : CM G k own n z D f) {b0 : Nat} (hb0 : b0 < 6) {m : Nat} (ef : f2 = va_up f (k (29 + 2 * b0)) (some (.inr (1, [.ref (k (29 + 2 * b0 + 1)), .int (nI m)])))) : CM G k own n (va_up z b0 m) (D) f2 := by
  subst ef
  refine ⟨?_, ?_, ?_, ?_, ?_, ?_, ?_, ?_, ?_, ?_, ?_, ?_, ?_, ?_, ?_, ?_, ?_, ?_, ?_, h.ok, h.ob, h.oa, h.bq⟩
  · exact (va_up_ne _ _ (ow_ne (h.ok 0 (by omega)) (h.ok (29 + 2 * b0) (by omega)) (Or.inr (by omega)))).trans (h.c0)
  · exact (va_up_ne _ _ (ow_ne (h.ok 1 (by omega)) (h.ok (29 + 2 * b0) (by omega)) (Or.inr (by omega)))).trans (h.c1)
  · exact (va_up_ne _ _ (ow_ne (h.ok 2 (by omega)) (h.ok (29 + 2 * b0) (by omega)) (Or.inr (by omega)))).trans (h.c2)
  · exact (va_up_ne _ _ (ow_ne (h.ok 3 (by omega)) (h.ok (29 + 2 * b0) (by omega)) (Or.inr (by omega)))).trans (h.c3)
  · exact (va_up_ne _ _ (ow_ne (h.ok 4 (by omega)) (h.ok (29 + 2 * b0) (by omega)) (Or.inr (by omega)))).trans (h.c4)
  · exact fun i hi => (va_up_ne _ _ (ow_ne (h.ok (5 + 8 * i) (by omega)) (h.ok (29 + 2 * b0) (by omega)) (Or.inr (by omega)))).trans (h.r0 i hi)
  · exact fun i hi => (va_up_ne _ _ (ow_ne (h.ok (5 + 8 * i + 1) (by omega)) (h.ok (29 + 2 * b0) (by omega)) (Or.inr (by omega)))).trans (h.r1 i hi)
  · exact fun i hi => (va_up_ne _ _ (ow_ne (h.ok (5 + 8 * i + 2) (by omega)) (h.ok (29 + 2 * b0) (by omega)) (Or.inr (by omega)))).trans (h.r2 i hi)
  · exact fun i hi => (va_up_ne _ _ (ow_ne (h.ok (5 + 8 * i + 3) (by omega)) (h.ok (29 + 2 * b0) (by omega)) (Or.inr (by omega)))).trans (h.r3 i hi)
  · exact fun i hi => (va_up_ne _ _ (ow_ne (h.ok (5 + 8 * i + 4) (by omega)) (h.ok (29 + 2 * b0) (by omega)) (Or.inr (by omega)))).trans (h.r4 i hi)
  · exact fun i hi => (va_up_ne _ _ (ow_ne (h.ok (5 + 8 * i + 5) (by omega)) (h.ok (29 + 2 * b0) (by omega)) (Or.inr (by omega)))).trans (h.r5 i hi)
  · exact fun i hi => (va_up_ne _ _ (ow_ne (h.ok (5 + 8 * i + 6) (by omega)) (h.ok (29 + 2 * b0) (by omega)) (Or.inr (by omega)))).trans (h.r6 i hi)
  · exact fun i hi => (va_up_ne _ _ (ow_ne (h.ok (5 + 8 * i + 7) (by omega)) (h.ok (29 + 2 * b0) (by omega)) (Or.inr (by omega)))).trans (h.r7 i hi)
  · exact fun b hb => (Decidable.em (b = b0)).elim (fun q_ => by subst q_; rw [va_up_self, va_up_self]) (fun q_ => by rw [va_up_ne _ _ (h.ne (by omega) (by omega) (by omega)), va_up_ne _ _ q_]; exact h.b0 b hb)
  · exact fun b hb => (va_up_ne _ _ (ow_ne (h.ok (29 + 2 * b + 1) (by omega)) (h.ok (29 + 2 * b0) (by omega)) (Or.inr (by omega)))).trans (h.b1 b hb)
  · exact fun a b hb => (va_up_ne _ _ (ow_ne (h.ob a b hb).1 (h.ok (29 + 2 * b0) (by omega)) (Or.inl (show (2 : Nat) ≠ 1 from by decide)))).trans (h.p0 a b hb)
  · exact fun a b hb => (va_up_ne _ _ (ow_ne (h.ob a b hb).2.1 (h.ok (29 + 2 * b0) (by omega)) (Or.inl (show (3 : Nat) ≠ 1 from by decide)))).trans (h.p1 a b hb)
  · exact fun a b hb => (va_up_ne _ _ (ow_ne (h.ob a b hb).2.2 (h.ok (29 + 2 * b0) (by omega)) (Or.inl (show (4 : Nat) ≠ 1 from by decide)))).trans (h.p2 a b hb)
  · exact fun a t ht => (va_up_ne _ _ (ow_ne (h.oa a t ht) (h.ok (29 + 2 * b0) (by omega)) (Or.inl (show (5 : Nat) ≠ 1 from by decide)))).trans (h.a0 a t ht)
theorem CM.setPc (h : CM G k own n z D f) {a0 : Nat} {b0 : tBo} (hb0 : BD D a0 = some b0) {g : Nat → Int64} (ef : f2 = va_up f (caB b0) (some (.inl (gk G 1, 8, .inr (.inl g))))) : CM G k own n z (dB D a0 (stB b0 (g, (cB b0).2))) f2 := by
  subst ef
  refine ⟨?_, ?_, ?_, ?_, ?_, ?_, ?_, ?_, ?_, ?_, ?_, ?_, ?_, ?_, ?_, ?_, ?_, ?_, ?_, h.ok, fun a b hb => (by by_cases q_ : a = a0; (subst q_; rw [show BD (dB D a (stB b0 (g, (cB b0).2))) a = some (stB b0 (g, (cB b0).2)) from va_up_self _ _ _] at hb; cases hb; exact h.ob a b0 hb0); (rw [show BD (dB D a0 (stB b0 (g, (cB b0).2))) a = BD D a from va_up_ne _ _ q_] at hb; exact h.ob a b hb)), h.oa, h.bq⟩
  · exact (va_up_ne _ _ (ow_ne (h.ok 0 (by omega)) (h.ob a0 b0 hb0).2.1 (Or.inl (show (1 : Nat) ≠ 3 from by decide)))).trans (h.c0)
  · exact (va_up_ne _ _ (ow_ne (h.ok 1 (by omega)) (h.ob a0 b0 hb0).2.1 (Or.inl (show (1 : Nat) ≠ 3 from by decide)))).trans (h.c1)
  · exact (va_up_ne _ _ (ow_ne (h.ok 2 (by omega)) (h.ob a0 b0 hb0).2.1 (Or.inl (show (1 : Nat) ≠ 3 from by decide)))).trans (h.c2)
  · exact (va_up_ne _ _ (ow_ne (h.ok 3 (by omega)) (h.ob a0 b0 hb0).2.1 (Or.inl (show (1 : Nat) ≠ 3 from by decide)))).trans (h.c3)
  · exact (va_up_ne _ _ (ow_ne (h.ok 4 (by omega)) (h.ob a0 b0 hb0).2.1 (Or.inl (show (1 : Nat) ≠ 3 from by decide)))).trans (h.c4)
  · exact fun i hi => (va_up_ne _ _ (ow_ne (h.ok (5 + 8 * i) (by omega)) (h.ob a0 b0 hb0).2.1 (Or.inl (show (1 : Nat) ≠ 3 from by decide)))).trans (h.r0 i hi)
  · exact fun i hi => (va_up_ne _ _ (ow_ne (h.ok (5 + 8 * i + 1) (by omega)) (h.ob a0 b0 hb0).2.1 (Or.inl (show (1 : Nat) ≠ 3 from by decide)))).trans (h.r1 i hi)
  · exact fun i hi => (va_up_ne _ _ (ow_ne (h.ok (5 + 8 * i + 2) (by omega)) (h.ob a0 b0 hb0).2.1 (Or.inl (show (1 : Nat) ≠ 3 from by decide)))).trans (h.r2 i hi)
  · exact fun i hi => (va_up_ne _ _ (ow_ne (h.ok (5 + 8 * i + 3) (by omega)) (h.ob a0 b0 hb0).2.1 (Or.inl (show (1 : Nat) ≠ 3 from by decide)))).trans (h.r3 i hi)
  · exact fun i hi => (va_up_ne _ _ (ow_ne (h.ok (5 + 8 * i + 4) (by omega)) (h.ob a0 b0 hb0).2.1 (Or.inl (show (1 : Nat) ≠ 3 from by decide)))).trans (h.r4 i hi)
  · exact fun i hi => (va_up_ne _ _ (ow_ne (h.ok (5 + 8 * i + 5) (by omega)) (h.ob a0 b0 hb0).2.1 (Or.inl (show (1 : Nat) ≠ 3 from by decide)))).trans (h.r5 i hi)
  · exact fun i hi => (va_up_ne _ _ (ow_ne (h.ok (5 + 8 * i + 6) (by omega)) (h.ob a0 b0 hb0).2.1 (Or.inl (show (1 : Nat) ≠ 3 from by decide)))).trans (h.r6 i hi)
  · exact fun i hi => (va_up_ne _ _ (ow_ne (h.ok (5 + 8 * i + 7) (by omega)) (h.ob a0 b0 hb0).2.1 (Or.inl (show (1 : Nat) ≠ 3 from by decide)))).trans (h.r7 i hi)
  · exact fun b hb => (va_up_ne _ _ (ow_ne (h.ok (29 + 2 * b) (by omega)) (h.ob a0 b0 hb0).2.1 (Or.inl (show (1 : Nat) ≠ 3 from by decide)))).trans (h.b0 b hb)
  · exact fun b hb => (va_up_ne _ _ (ow_ne (h.ok (29 + 2 * b + 1) (by omega)) (h.ob a0 b0 hb0).2.1 (Or.inl (show (1 : Nat) ≠ 3 from by decide)))).trans (h.b1 b hb)
  · exact fun a b hb => (by by_cases q_ : a = a0; (subst q_; rw [show BD (dB D a (stB b0 (g, (cB b0).2))) a = some (stB b0 (g, (cB b0).2)) from va_up_self _ _ _] at hb; cases hb; exact (va_up_ne _ _ (ow_ne (h.ob a b0 hb0).1 (h.ob a b0 hb0).2.1 (Or.inl (show (2 : Nat) ≠ 3 from by decide)))).trans (h.p0 a b0 hb0)); (rw [show BD (dB D a0 (stB b0 (g, (cB b0).2))) a = BD D a from va_up_ne _ _ q_] at hb; exact (va_up_ne _ _ (ow_ne (h.ob a b hb).1 (h.ob a0 b0 hb0).2.1 (Or.inl (show (2 : Nat) ≠ 3 from by decide)))).trans (h.p0 a b hb)))
  · exact fun a b hb => (by by_cases q_ : a = a0; (subst q_; rw [show BD (dB D a (stB b0 (g, (cB b0).2))) a = some (stB b0 (g, (cB b0).2)) from va_up_self _ _ _] at hb; cases hb; exact va_up_self _ _ _); (rw [show BD (dB D a0 (stB b0 (g, (cB b0).2))) a = BD D a from va_up_ne _ _ q_] at hb; exact (va_up_ne _ _ (ow_ne (h.ob a b hb).2.1 (h.ob a0 b0 hb0).2.1 (Or.inr q_))).trans (h.p1 a b hb)))
  · exact fun a b hb => (by by_cases q_ : a = a0; (subst q_; rw [show BD (dB D a (stB b0 (g, (cB b0).2))) a = some (stB b0 (g, (cB b0).2)) from va_up_self _ _ _] at hb; cases hb; exact (va_up_ne _ _ (ow_ne (h.ob a b0 hb0).2.2 (h.ob a b0 hb0).2.1 (Or.inl (show (4 : Nat) ≠ 3 from by decide)))).trans (h.p2 a b0 hb0)); (rw [show BD (dB D a0 (stB b0 (g, (cB b0).2))) a = BD D a from va_up_ne _ _ q_] at hb; exact (va_up_ne _ _ (ow_ne (h.ob a b hb).2.2 (h.ob a0 b0 hb0).2.1 (Or.inl (show (4 : Nat) ≠ 3 from by decide)))).trans (h.p2 a b hb)))
  · exact fun a t ht => (va_up_ne _ _ (ow_ne (h.oa a t ht) (h.ob a0 b0 hb0).2.1 (Or.inl (show (5 : Nat) ≠ 3 from by decide)))).trans (h.a0 a t ht)
theorem CM.setPi (h : CM G k own n z D f) {a0 : Nat} {b0 : tBo} (hb0 : BD D a0 = some b0) {g : Nat → Int32} (ef : f2 = va_up f (iaB b0) (some (.inl (gk G 0, 16, .inl g)))) : CM G k own n z (dB D a0 (stB b0 ((cB b0).1, g))) f2 := by
  subst ef
  refine ⟨?_, ?_, ?_, ?_, ?_, ?_, ?_, ?_, ?_, ?_, ?_, ?_, ?_, ?_, ?_, ?_, ?_, ?_, ?_, h.ok, fun a b hb => (by by_cases q_ : a = a0; (subst q_; rw [show BD (dB D a (stB b0 ((cB b0).1, g))) a = some (stB b0 ((cB b0).1, g)) from va_up_self _ _ _] at hb; cases hb; exact h.ob a b0 hb0); (rw [show BD (dB D a0 (stB b0 ((cB b0).1, g))) a = BD D a from va_up_ne _ _ q_] at hb; exact h.ob a b hb)), h.oa, h.bq⟩
  · exact (va_up_ne _ _ (ow_ne (h.ok 0 (by omega)) (h.ob a0 b0 hb0).2.2 (Or.inl (show (1 : Nat) ≠ 4 from by decide)))).trans (h.c0)
  · exact (va_up_ne _ _ (ow_ne (h.ok 1 (by omega)) (h.ob a0 b0 hb0).2.2 (Or.inl (show (1 : Nat) ≠ 4 from by decide)))).trans (h.c1)
  · exact (va_up_ne _ _ (ow_ne (h.ok 2 (by omega)) (h.ob a0 b0 hb0).2.2 (Or.inl (show (1 : Nat) ≠ 4 from by decide)))).trans (h.c2)
  · exact (va_up_ne _ _ (ow_ne (h.ok 3 (by omega)) (h.ob a0 b0 hb0).2.2 (Or.inl (show (1 : Nat) ≠ 4 from by decide)))).trans (h.c3)
  · exact (va_up_ne _ _ (ow_ne (h.ok 4 (by omega)) (h.ob a0 b0 hb0).2.2 (Or.inl (show (1 : Nat) ≠ 4 from by decide)))).trans (h.c4)
  · exact fun i hi => (va_up_ne _ _ (ow_ne (h.ok (5 + 8 * i) (by omega)) (h.ob a0 b0 hb0).2.2 (Or.inl (show (1 : Nat) ≠ 4 from by decide)))).trans (h.r0 i hi)
  · exact fun i hi => (va_up_ne _ _ (ow_ne (h.ok (5 + 8 * i + 1) (by omega)) (h.ob a0 b0 hb0).2.2 (Or.inl (show (1 : Nat) ≠ 4 from by decide)))).trans (h.r1 i hi)
  · exact fun i hi => (va_up_ne _ _ (ow_ne (h.ok (5 + 8 * i + 2) (by omega)) (h.ob a0 b0 hb0).2.2 (Or.inl (show (1 : Nat) ≠ 4 from by decide)))).trans (h.r2 i hi)
  · exact fun i hi => (va_up_ne _ _ (ow_ne (h.ok (5 + 8 * i + 3) (by omega)) (h.ob a0 b0 hb0).2.2 (Or.inl (show (1 : Nat) ≠ 4 from by decide)))).trans (h.r3 i hi)
  · exact fun i hi => (va_up_ne _ _ (ow_ne (h.ok (5 + 8 * i + 4) (by omega)) (h.ob a0 b0 hb0).2.2 (Or.inl (show (1 : Nat) ≠ 4 from by decide)))).trans (h.r4 i hi)
  · exact fun i hi => (va_up_ne _ _ (ow_ne (h.ok (5 + 8 * i + 5) (by omega)) (h.ob a0 b0 hb0).2.2 (Or.inl (show (1 : Nat) ≠ 4 from by decide)))).trans (h.r5 i hi)
  · exact fun i hi => (va_up_ne _ _ (ow_ne (h.ok (5 + 8 * i + 6) (by omega)) (h.ob a0 b0 hb0).2.2 (Or.inl (show (1 : Nat) ≠ 4 from by decide)))).trans (h.r6 i hi)
  · exact fun i hi => (va_up_ne _ _ (ow_ne (h.ok (5 + 8 * i + 7) (by omega)) (h.ob a0 b0 hb0).2.2 (Or.inl (show (1 : Nat) ≠ 4 from by decide)))).trans (h.r7 i hi)
  · exact fun b hb => (va_up_ne _ _ (ow_ne (h.ok (29 + 2 * b) (by omega)) (h.ob a0 b0 hb0).2.2 (Or.inl (show (1 : Nat) ≠ 4 from by decide)))).trans (h.b0 b hb)
  · exact fun b hb => (va_up_ne _ _ (ow_ne (h.ok (29 + 2 * b + 1) (by omega)) (h.ob a0 b0 hb0).2.2 (Or.inl (show (1 : Nat) ≠ 4 from by decide)))).trans (h.b1 b hb)
  · exact fun a b hb => (by by_cases q_ : a = a0; (subst q_; rw [show BD (dB D a (stB b0 ((cB b0).1, g))) a = some (stB b0 ((cB b0).1, g)) from va_up_self _ _ _] at hb; cases hb; exact (va_up_ne _ _ (ow_ne (h.ob a b0 hb0).1 (h.ob a b0 hb0).2.2 (Or.inl (show (2 : Nat) ≠ 4 from by decide)))).trans (h.p0 a b0 hb0)); (rw [show BD (dB D a0 (stB b0 ((cB b0).1, g))) a = BD D a from va_up_ne _ _ q_] at hb; exact (va_up_ne _ _ (ow_ne (h.ob a b hb).1 (h.ob a0 b0 hb0).2.2 (Or.inl (show (2 : Nat) ≠ 4 from by decide)))).trans (h.p0 a b hb)))
  · exact fun a b hb => (by by_cases q_ : a = a0; (subst q_; rw [show BD (dB D a (stB b0 ((cB b0).1, g))) a = some (stB b0 ((cB b0).1, g)) from va_up_self _ _ _] at hb; cases hb; exact (va_up_ne _ _ (ow_ne (h.ob a b0 hb0).2.1 (h.ob a b0 hb0).2.2 (Or.inl (show (3 : Nat) ≠ 4 from by decide)))).trans (h.p1 a b0 hb0)); (rw [show BD (dB D a0 (stB b0 ((cB b0).1, g))) a = BD D a from va_up_ne _ _ q_] at hb; exact (va_up_ne _ _ (ow_ne (h.ob a b hb).2.1 (h.ob a0 b0 hb0).2.2 (Or.inl (show (3 : Nat) ≠ 4 from by decide)))).trans (h.p1 a b hb)))
  · exact fun a b hb => (by by_cases q_ : a = a0; (subst q_; rw [show BD (dB D a (stB b0 ((cB b0).1, g))) a = some (stB b0 ((cB b0).1, g)) from va_up_self _ _ _] at hb; cases hb; exact va_up_self _ _ _); (rw [show BD (dB D a0 (stB b0 ((cB b0).1, g))) a = BD D a from va_up_ne _ _ q_] at hb; exact (va_up_ne _ _ (ow_ne (h.ob a b hb).2.2 (h.ob a0 b0 hb0).2.2 (Or.inr q_))).trans (h.p2 a b hb)))
  · exact fun a t ht => (va_up_ne _ _ (ow_ne (h.oa a t ht) (h.ob a0 b0 hb0).2.2 (Or.inl (show (5 : Nat) ≠ 4 from by decide)))).trans (h.a0 a t ht)
theorem CM.setPb (h : CM G k own n z D f) {a0 : Nat} {b0 : tBo} (hb0 : BD D a0 = some b0) {si : Int32} {bf : Option Nat} (ef : f2 = va_up f (a0) (some (.inr (2, [.int (nI (yB b0)), .ref (caB b0), .ref (iaB b0), .int si, va_rf bf])))) : CM G k own n z (dB D a0 ((gB b0, yB b0, caB b0, iaB b0, si, bf, cB b0))) f2 := by
  subst ef
  refine ⟨?_, ?_, ?_, ?_, ?_, ?_, ?_, ?_, ?_, ?_, ?_, ?_, ?_, ?_, ?_, ?_, ?_, ?_, ?_, h.ok, fun a b hb => (by by_cases q_ : a = a0; (subst q_; rw [show BD (dB D a ((gB b0, yB b0, caB b0, iaB b0, si, bf, cB b0))) a = some ((gB b0, yB b0, caB b0, iaB b0, si, bf, cB b0)) from va_up_self _ _ _] at hb; cases hb; exact h.ob a b0 hb0); (rw [show BD (dB D a0 ((gB b0, yB b0, caB b0, iaB b0, si, bf, cB b0))) a = BD D a from va_up_ne _ _ q_] at hb; exact h.ob a b hb)), h.oa, h.bq⟩
  · exact (va_up_ne _ _ (ow_ne (h.ok 0 (by omega)) (h.ob a0 b0 hb0).1 (Or.inl (show (1 : Nat) ≠ 2 from by decide)))).trans (h.c0)
  · exact (va_up_ne _ _ (ow_ne (h.ok 1 (by omega)) (h.ob a0 b0 hb0).1 (Or.inl (show (1 : Nat) ≠ 2 from by decide)))).trans (h.c1)
  · exact (va_up_ne _ _ (ow_ne (h.ok 2 (by omega)) (h.ob a0 b0 hb0).1 (Or.inl (show (1 : Nat) ≠ 2 from by decide)))).trans (h.c2)
  · exact (va_up_ne _ _ (ow_ne (h.ok 3 (by omega)) (h.ob a0 b0 hb0).1 (Or.inl (show (1 : Nat) ≠ 2 from by decide)))).trans (h.c3)
  · exact (va_up_ne _ _ (ow_ne (h.ok 4 (by omega)) (h.ob a0 b0 hb0).1 (Or.inl (show (1 : Nat) ≠ 2 from by decide)))).trans (h.c4)
  · exact fun i hi => (va_up_ne _ _ (ow_ne (h.ok (5 + 8 * i) (by omega)) (h.ob a0 b0 hb0).1 (Or.inl (show (1 : Nat) ≠ 2 from by decide)))).trans (h.r0 i hi)
  · exact fun i hi => (va_up_ne _ _ (ow_ne (h.ok (5 + 8 * i + 1) (by omega)) (h.ob a0 b0 hb0).1 (Or.inl (show (1 : Nat) ≠ 2 from by decide)))).trans (h.r1 i hi)
  · exact fun i hi => (va_up_ne _ _ (ow_ne (h.ok (5 + 8 * i + 2) (by omega)) (h.ob a0 b0 hb0).1 (Or.inl (show (1 : Nat) ≠ 2 from by decide)))).trans (h.r2 i hi)
  · exact fun i hi => (va_up_ne _ _ (ow_ne (h.ok (5 + 8 * i + 3) (by omega)) (h.ob a0 b0 hb0).1 (Or.inl (show (1 : Nat) ≠ 2 from by decide)))).trans (h.r3 i hi)
  · exact fun i hi => (va_up_ne _ _ (ow_ne (h.ok (5 + 8 * i + 4) (by omega)) (h.ob a0 b0 hb0).1 (Or.inl (show (1 : Nat) ≠ 2 from by decide)))).trans (h.r4 i hi)
  · exact fun i hi => (va_up_ne _ _ (ow_ne (h.ok (5 + 8 * i + 5) (by omega)) (h.ob a0 b0 hb0).1 (Or.inl (show (1 : Nat) ≠ 2 from by decide)))).trans (h.r5 i hi)
  · exact fun i hi => (va_up_ne _ _ (ow_ne (h.ok (5 + 8 * i + 6) (by omega)) (h.ob a0 b0 hb0).1 (Or.inl (show (1 : Nat) ≠ 2 from by decide)))).trans (h.r6 i hi)
  · exact fun i hi => (va_up_ne _ _ (ow_ne (h.ok (5 + 8 * i + 7) (by omega)) (h.ob a0 b0 hb0).1 (Or.inl (show (1 : Nat) ≠ 2 from by decide)))).trans (h.r7 i hi)
  · exact fun b hb => (va_up_ne _ _ (ow_ne (h.ok (29 + 2 * b) (by omega)) (h.ob a0 b0 hb0).1 (Or.inl (show (1 : Nat) ≠ 2 from by decide)))).trans (h.b0 b hb)
  · exact fun b hb => (va_up_ne _ _ (ow_ne (h.ok (29 + 2 * b + 1) (by omega)) (h.ob a0 b0 hb0).1 (Or.inl (show (1 : Nat) ≠ 2 from by decide)))).trans (h.b1 b hb)
  · exact fun a b hb => (by by_cases q_ : a = a0; (subst q_; rw [show BD (dB D a ((gB b0, yB b0, caB b0, iaB b0, si, bf, cB b0))) a = some ((gB b0, yB b0, caB b0, iaB b0, si, bf, cB b0)) from va_up_self _ _ _] at hb; cases hb; exact va_up_self _ _ _); (rw [show BD (dB D a0 ((gB b0, yB b0, caB b0, iaB b0, si, bf, cB b0))) a = BD D a from va_up_ne _ _ q_] at hb; exact (va_up_ne _ _ (ow_ne (h.ob a b hb).1 (h.ob a0 b0 hb0).1 (Or.inr q_))).trans (h.p0 a b hb)))
  · exact fun a b hb => (by by_cases q_ : a = a0; (subst q_; rw [show BD (dB D a ((gB b0, yB b0, caB b0, iaB b0, si, bf, cB b0))) a = some ((gB b0, yB b0, caB b0, iaB b0, si, bf, cB b0)) from va_up_self _ _ _] at hb; cases hb; exact (va_up_ne _ _ (ow_ne (h.ob a b0 hb0).2.1 (h.ob a b0 hb0).1 (Or.inl (show (3 : Nat) ≠ 2 from by decide)))).trans (h.p1 a b0 hb0)); (rw [show BD (dB D a0 ((gB b0, yB b0, caB b0, iaB b0, si, bf, cB b0))) a = BD D a from va_up_ne _ _ q_] at hb; exact (va_up_ne _ _ (ow_ne (h.ob a b hb).2.1 (h.ob a0 b0 hb0).1 (Or.inl (show (3 : Nat) ≠ 2 from by decide)))).trans (h.p1 a b hb)))
  · exact fun a b hb => (by by_cases q_ : a = a0; (subst q_; rw [show BD (dB D a ((gB b0, yB b0, caB b0, iaB b0, si, bf, cB b0))) a = some ((gB b0, yB b0, caB b0, iaB b0, si, bf, cB b0)) from va_up_self _ _ _] at hb; cases hb; exact (va_up_ne _ _ (ow_ne (h.ob a b0 hb0).2.2 (h.ob a b0 hb0).1 (Or.inl (show (4 : Nat) ≠ 2 from by decide)))).trans (h.p2 a b0 hb0)); (rw [show BD (dB D a0 ((gB b0, yB b0, caB b0, iaB b0, si, bf, cB b0))) a = BD D a from va_up_ne _ _ q_] at hb; exact (va_up_ne _ _ (ow_ne (h.ob a b hb).2.2 (h.ob a0 b0 hb0).1 (Or.inl (show (4 : Nat) ≠ 2 from by decide)))).trans (h.p2 a b hb)))
  · exact fun a t ht => (va_up_ne _ _ (ow_ne (h.oa a t ht) (h.ob a0 b0 hb0).1 (Or.inl (show (5 : Nat) ≠ 2 from by decide)))).trans (h.a0 a t ht)
end CMs
