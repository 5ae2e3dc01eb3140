/-! what stays: cells that nobody of the class owns -/
def frD (own : tR) (f : mF) (own2 : tR) (f2 : mF) : Prop := ∀ (a : Nat) (e : va_E), f a = some e → (∃ e2, f2 a = some e2) ∧ own2 a = own a ∧ ((own a).1 = 0 → f2 a = some e)
theorem frD.rf {own : tR} {f : mF} : frD own f own f := fun a e h => ⟨⟨e, h⟩, rfl, fun _ => h⟩
theorem frD.trans {o1 o2 o3 : tR} {f g k : mF} (h1 : frD o1 f o2 g) (h2 : frD o2 g o3 k) : frD o1 f o3 k := fun a e h => by
  obtain ⟨⟨e2, q1⟩, q2, q3⟩ := h1 a e h
  obtain ⟨q4, q5, q6⟩ := h2 a e2 q1
  refine ⟨q4, q5.trans q2, fun h0 => ?_⟩
  have q7 := q3 h0
  rw [q1] at q7
  cases q7
  exact q6 (by rw [q2]; exact h0)
theorem frD.up {o1 o2 : tR} {f g g2 : mF} {x : Nat} {e : va_E} (h : frD o1 f o2 g) (hx : (o2 x).1 ≠ 0) (eg : g2 = va_up g x (some e)) : frD o1 f o2 g2 := h.trans (fun a e1 h1 => by
  subst eg
  by_cases q : a = x
  · subst q; exact ⟨⟨e, va_up_self _ _ _⟩, rfl, fun h0 => absurd h0 hx⟩
  · rw [va_up_ne _ _ q]; exact ⟨⟨e1, h1⟩, rfl, fun _ => h1⟩)
theorem frD.fresh {o1 o2 o3 : tR} {f g g2 : mF} {x : Nat} {e : va_E} (h : frD o1 f o2 g) (hx : g x = none) (eg : g2 = va_up g x (some e)) (ho : ∀ a, a ≠ x → o3 a = o2 a) : frD o1 f o3 g2 := h.trans (fun a e1 h1 => by
  subst eg
  have q : a ≠ x := fun q => by rw [q, hx] at h1; cases h1
  rw [va_up_ne _ _ q]; exact ⟨⟨e1, h1⟩, ho a q, fun _ => h1⟩)
theorem frD.none {o1 o2 : tR} {f g : mF} (h : frD o1 f o2 g) {x : Nat} (hx : g x = none) : f x = none := by
  cases hf : f x with
  | none => rfl
  | some e => obtain ⟨⟨e2, q⟩, -⟩ := h x e hf; rw [hx] at q; cases q
section CMm
variable {G : mG} {k : Nat → Nat} {own own2 : tR} {n : Nat} {z : Nat → Nat} {D : tD} {f f2 : mF}
theorem CM.mono (h : CM G k own n z D f) (hm : ∀ a e, f a = some e → (own a).1 ≠ 0 → f2 a = some e ∧ own2 a = own a) : CM G k own2 n z D f2 := by
  have hk : ∀ {j : Nat} {e : va_E}, j < 41 → f (k j) = some e → f2 (k j) = some e := fun {j e} hj he => (hm _ _ he (by rw [h.ok j hj]; exact (by decide : (1 : Nat) ≠ 0))).1
  have h1 : ∀ a b, BD D a = some b → (own a).1 ≠ 0 ∧ (own (caB b)).1 ≠ 0 ∧ (own (iaB b)).1 ≠ 0 := fun a b hb => by
    obtain ⟨q1, q2, q3⟩ := h.ob a b hb
    rw [q1, q2, q3]
    exact ⟨(by decide : (2 : Nat) ≠ 0), (by decide : (3 : Nat) ≠ 0), (by decide : (4 : Nat) ≠ 0)⟩
  have h2 : ∀ a t, AD D a = some t → (own a).1 ≠ 0 := fun a t ht => by rw [h.oa a t ht]; exact (by decide : (5 : Nat) ≠ 0)
  refine ⟨hk (by omega) h.c0, hk (by omega) h.c1, hk (by omega) h.c2, hk (by omega) h.c3, hk (by omega) h.c4, fun i hi => hk (by omega) (h.r0 i hi), fun i hi => hk (by omega) (h.r1 i hi), fun i hi => hk (by omega) (h.r2 i hi), fun i hi => hk (by omega) (h.r3 i hi), fun i hi => hk (by omega) (h.r4 i hi), fun i hi => hk (by omega) (h.r5 i hi), fun i hi => hk (by omega) (h.r6 i hi), fun i hi => hk (by omega) (h.r7 i hi), fun b hb => hk (by omega) (h.b0 b hb), fun b hb => hk (by omega) (h.b1 b hb), fun a b hb => (hm _ _ (h.p0 a b hb) (h1 a b hb).1).1, fun a b hb => (hm _ _ (h.p1 a b hb) (h1 a b hb).2.1).1, fun a b hb => (hm _ _ (h.p2 a b hb) (h1 a b hb).2.2).1, fun a t ht => (hm _ _ (h.a0 a t ht) (h2 a t ht)).1, ?_, ?_, ?_, h.bq⟩
  · intro j hj
    have key : ∃ e, f (k j) = some e := by
      by_cases q5 : j < 5
      · have : j = 0 ∨ j = 1 ∨ j = 2 ∨ j = 3 ∨ j = 4 := by omega
        rcases this with rfl | rfl | rfl | rfl | rfl
        · exact ⟨_, h.c0⟩
        · exact ⟨_, h.c1⟩
        · exact ⟨_, h.c2⟩
        · exact ⟨_, h.c3⟩
        · exact ⟨_, h.c4⟩
      · by_cases q29 : j < 29
        · obtain ⟨i, hi, c, hc, rfl⟩ : ∃ i, i < 3 ∧ ∃ c, c < 8 ∧ j = 5 + 8 * i + c := ⟨(j - 5) / 8, by omega, (j - 5) % 8, by omega, by omega⟩
          have : c = 0 ∨ c = 1 ∨ c = 2 ∨ c = 3 ∨ c = 4 ∨ c = 5 ∨ c = 6 ∨ c = 7 := by omega
          rcases this with rfl | rfl | rfl | rfl | rfl | rfl | rfl | rfl
          · exact ⟨_, h.r0 i hi⟩
          · exact ⟨_, h.r1 i hi⟩
          · exact ⟨_, h.r2 i hi⟩
          · exact ⟨_, h.r3 i hi⟩
          · exact ⟨_, h.r4 i hi⟩
          · exact ⟨_, h.r5 i hi⟩
          · exact ⟨_, h.r6 i hi⟩
          · exact ⟨_, h.r7 i hi⟩
        · obtain ⟨b, hb, c, hc, rfl⟩ : ∃ b, b < 6 ∧ ∃ c, c < 2 ∧ j = 29 + 2 * b + c := ⟨(j - 29) / 2, by omega, (j - 29) % 2, by omega, by omega⟩
          have : c = 0 ∨ c = 1 := by omega
          rcases this with rfl | rfl
          · exact ⟨_, h.b0 b hb⟩
          · exact ⟨_, h.b1 b hb⟩
    obtain ⟨e, he⟩ := key
    rw [(hm _ _ he (by rw [h.ok j hj]; exact (by decide : (1 : Nat) ≠ 0))).2]
    exact h.ok j hj
  · intro a b hb
    rw [(hm _ _ (h.p0 a b hb) (h1 a b hb).1).2, (hm _ _ (h.p1 a b hb) (h1 a b hb).2.1).2, (hm _ _ (h.p2 a b hb) (h1 a b hb).2.2).2]
    exact h.ob a b hb
  · intro a t ht
    rw [(hm _ _ (h.a0 a t ht) (h2 a t ht)).2]
    exact h.oa a t ht
/-- a cell that nobody has yet -/
theorem CM.fresh (h : CM G k own n z D f) {x : Nat} {e : va_E} (hx : f x = none) (ef : f2 = va_up f x (some e)) (ho : ∀ a, a ≠ x → own2 a = own a) : CM G k own2 n z D f2 := h.mono (fun a e1 h1 _ => by
  have q : a ≠ x := fun q => by rw [q, hx] at h1; cases h1
  rw [ef, va_up_ne _ _ q]
  exact ⟨h1, ho a q⟩)
/-- a new body -/
theorem CM.newB (h : CM G k own n z D f) {q : Nat} {b0 : tBo} (e0 : f q = some (.inr (2, [.int (nI (yB b0)), .ref (caB b0), .ref (iaB b0), .int (siB b0), va_rf (bfB b0)]))) (e1 : f (caB b0) = some (.inl (gk G 1, 8, .inr (.inl (cB b0).1)))) (e2 : f (iaB b0) = some (.inl (gk G 0, 16, .inl (cB b0).2))) (o0 : own q = (2, q)) (o1 : own (caB b0) = (3, q)) (o2 : own (iaB b0) = (4, q)) : CM G k own n z (dB D q b0) f := by
  have key : ∀ a b, BD (dB D q b0) a = some b → (a = q ∧ b = b0) ∨ BD D a = some b := fun a b hb => by
    by_cases z : a = q
    · subst z
      rw [show BD (dB D a b0) a = some b0 from va_up_self _ _ _] at hb
      cases hb
      exact Or.inl ⟨rfl, rfl⟩
    · rw [show BD (dB D q b0) a = BD D a from va_up_ne _ _ z] at hb
      exact Or.inr hb
  refine ⟨h.c0, h.c1, h.c2, h.c3, h.c4, h.r0, h.r1, h.r2, h.r3, h.r4, h.r5, h.r6, h.r7, h.b0, h.b1, fun a b hb => ?_, fun a b hb => ?_, fun a b hb => ?_, h.a0, h.ok, fun a b hb => ?_, h.oa, h.bq⟩
  · rcases key a b hb with ⟨rfl, rfl⟩ | hb
    · exact e0
    · exact h.p0 a b hb
  · rcases key a b hb with ⟨rfl, rfl⟩ | hb
    · exact e1
    · exact h.p1 a b hb
  · rcases key a b hb with ⟨rfl, rfl⟩ | hb
    · exact e2
    · exact h.p2 a b hb
  · rcases key a b hb with ⟨rfl, rfl⟩ | hb
    · exact ⟨o0, o1, o2⟩
    · exact h.ob a b hb
/-- a new act -/
theorem CM.newA (h : CM G k own n z D f) {q : Nat} {t0 : tA} (e0 : f q = some (.inr (0, [.int t0.1, .int t0.2.1, .long t0.2.2.1, .int t0.2.2.2.1, .int t0.2.2.2.2.1, .int t0.2.2.2.2.2]))) (o0 : own q = (5, q)) : CM G k own n z (dA D q t0) f := by
  have key : ∀ a t, AD (dA D q t0) a = some t → (a = q ∧ t = t0) ∨ AD D a = some t := fun a t ht => by
    by_cases z : a = q
    · subst z
      rw [show AD (dA D a t0) a = some t0 from va_up_self _ _ _] at ht
      cases ht
      exact Or.inl ⟨rfl, rfl⟩
    · rw [show AD (dA D q t0) a = AD D a from va_up_ne _ _ z] at ht
      exact Or.inr ht
  refine ⟨h.c0, h.c1, h.c2, h.c3, h.c4, h.r0, h.r1, h.r2, h.r3, h.r4, h.r5, h.r6, h.r7, h.b0, h.b1, h.p0, h.p1, h.p2, fun a t ht => ?_, h.ok, h.ob, fun a t ht => ?_, h.bq⟩
  · rcases key a t ht with ⟨rfl, rfl⟩ | ht
    · exact e0
    · exact h.a0 a t ht
  · rcases key a t ht with ⟨rfl, rfl⟩ | ht
    · exact o0
    · exact h.oa a t ht
end CMm
/-! a Run and its picture -/
def bsC (n : Nat) (T : Nat → Nat) : Prop := n ≤ 24 ∧ ∀ o, T o < 3
def cpO (i : Nat) (T : Nat → Nat) (D : tD) (o : Nat) (c : tB) : Prop := ∃ a b, QD D (5 + 8 * i + 5) o = some a ∧ BD D a = some b ∧ gB b = (i + 1, o) ∧ yB b = T o ∧ eqB (T o) (cB b) c
def obO (T : Nat → Nat) (D : tD) (o : Nat) (c : tB) : Prop := ∃ a b, QD D 1 o = some a ∧ BD D a = some b ∧ gB b = (0, o) ∧ yB b = T o ∧ eqB (T o) (cB b) c
def wfC (i n : Nat) (T : Nat → Nat) (D : tD) : Prop := ∀ o, o < 24 → QD D (5 + 8 * i + 5) o = none ∨ (o < n ∧ ∃ c, cpO i T D o c)
def wfO (n : Nat) (T : Nat → Nat) (D : tD) : Prop := ∀ o, o < n → ∃ c, obO T D o c
def RP (n : Nat) (T : Nat → Nat) (k1 i : Nat) (dn th ta nx : Int32) (s : tS) (D : tD) : Prop :=
  bsC n T ∧ okS n T s ∧ (∃ lb, rD D i = (lb, dn, gfS s, th, ta, some k1, nx) ∧ ∀ o, o < 32 → btO lb o = ldS s o) ∧ TRC (trS s) (eD D i) (ID D (5 + 8 * i + 2)) (ID D (5 + 8 * i + 3)) (ID D (5 + 8 * i + 4)) ∧ (∀ x, x < 4 → ID D (5 + 8 * i + 6) x = haS s x) ∧ (∀ x, x < 4 → JD D (5 + 8 * i + 7) x = vaS s x) ∧ wfC i n T D ∧ wfO n T D ∧ ∀ o, o < n → (ldS s o = true → cpO i T D o (bdS s o)) ∧ (ldS s o = false → obO T D o (bdS s o))
def KP (i : Nat) (D0 D : tD) : Prop := (∀ a b, BD D0 a = some b → (gB b).1 ≠ i + 1 → BD D a = some b) ∧ AD D = AD D0 ∧ lD D = lD D0 ∧ (∀ q, q ≠ i → rD D q = rD D0 q ∧ eD D q = eD D0 q) ∧ (∀ j, j < 5 + 8 * i ∨ 5 + 8 * i + 8 ≤ j → ID D j = ID D0 j ∧ JD D j = JD D0 j ∧ QD D j = QD D0 j) ∧ ∀ o a, QD D0 (5 + 8 * i + 5) o = some a → QD D (5 + 8 * i + 5) o = some a
def RN (G : mG) (k : Nat → Nat) (own : tR) (n : Nat) (T z : Nat → Nat) (i : Nat) (D0 : tD) (dn th ta nx : Int32) (s : tS) (f : mF) : Prop := ∃ D, CM G k own n z D f ∧ RP n T (k 1) i dn th ta nx s D ∧ KP i D0 D
theorem KP.rf {i : Nat} {D : tD} : KP i D D := ⟨fun _ _ h _ => h, rfl, rfl, fun _ _ => ⟨rfl, rfl⟩, fun _ _ => ⟨rfl, rfl, rfl⟩, fun _ _ h => h⟩
theorem KP.trans {i : Nat} {D1 D2 D3 : tD} (h : KP i D1 D2) (g : KP i D2 D3) : KP i D1 D3 := ⟨fun a b hb hn => g.1 a b (h.1 a b hb hn) hn, g.2.1.trans h.2.1, g.2.2.1.trans h.2.2.1, fun q hq => ⟨(g.2.2.2.1 q hq).1.trans (h.2.2.2.1 q hq).1, (g.2.2.2.1 q hq).2.trans (h.2.2.2.1 q hq).2⟩, fun j hj => ⟨(g.2.2.2.2.1 j hj).1.trans (h.2.2.2.2.1 j hj).1, (g.2.2.2.2.1 j hj).2.1.trans (h.2.2.2.2.1 j hj).2.1, (g.2.2.2.2.1 j hj).2.2.trans (h.2.2.2.2.1 j hj).2.2⟩, fun o a ho => g.2.2.2.2.2 o a (h.2.2.2.2.2 o a ho)⟩
section KPs
variable {i : Nat} {D0 D : tD}
theorem KP.R (h : KP i D0 D) {q : tQ} : KP i D0 (dR D i q) := ⟨h.1, h.2.1, h.2.2.1, fun p hp => ⟨(va_up_ne _ _ hp).trans (h.2.2.2.1 p hp).1, (h.2.2.2.1 p hp).2⟩, h.2.2.2.2⟩
theorem KP.E (h : KP i D0 D) {q : Int32 × Int32} : KP i D0 (dE D i q) := ⟨h.1, h.2.1, h.2.2.1, fun p hp => ⟨(h.2.2.2.1 p hp).1, (va_up_ne _ _ hp).trans (h.2.2.2.1 p hp).2⟩, h.2.2.2.2⟩
theorem KP.I (h : KP i D0 D) {c : Nat} {g : Nat → Int32} (hc : c < 8) : KP i D0 (dI D (5 + 8 * i + c) g) := ⟨h.1, h.2.1, h.2.2.1, h.2.2.2.1, fun j hj => ⟨(va_up_ne _ _ (by omega)).trans (h.2.2.2.2.1 j hj).1, (h.2.2.2.2.1 j hj).2⟩, h.2.2.2.2.2⟩
theorem KP.J (h : KP i D0 D) {c : Nat} {g : Nat → Int64} (hc : c < 8) : KP i D0 (dJ D (5 + 8 * i + c) g) := ⟨h.1, h.2.1, h.2.2.1, h.2.2.2.1, fun j hj => ⟨(h.2.2.2.2.1 j hj).1, (va_up_ne _ _ (by omega)).trans (h.2.2.2.2.1 j hj).2.1, (h.2.2.2.2.1 j hj).2.2⟩, h.2.2.2.2.2⟩
theorem KP.Q5 (h : KP i D0 D) {o a : Nat} (ho : QD D (5 + 8 * i + 5) o = none ∨ QD D (5 + 8 * i + 5) o = some a) : KP i D0 (dQ D (5 + 8 * i + 5) (va_up (QD D (5 + 8 * i + 5)) o (some a))) := ⟨h.1, h.2.1, h.2.2.1, h.2.2.2.1, fun j hj => ⟨(h.2.2.2.2.1 j hj).1, (h.2.2.2.2.1 j hj).2.1, (va_up_ne _ _ (by omega)).trans (h.2.2.2.2.1 j hj).2.2⟩, fun p b hp => by
  have hq := h.2.2.2.2.2 p b hp
  show va_up (QD D) (5 + 8 * i + 5) _ (5 + 8 * i + 5) p = some b
  rw [va_up_self]
  by_cases e : p = o
  · subst e
    rw [va_up_self]
    rcases ho with z | z
    · rw [z] at hq; cases hq
    · rw [z] at hq; exact hq
  · rw [va_up_ne _ _ e]; exact hq⟩
theorem KP.B (h : KP i D0 D) {a : Nat} {b b2 : tBo} (hb : BD D a = some b) (hg : (gB b).1 = i + 1) : KP i D0 (dB D a b2) := ⟨fun x y hy hn => by
  have hx := h.1 x y hy hn
  have e : x ≠ a := fun e => by rw [e, hb] at hx; cases hx; exact hn hg
  exact (va_up_ne _ _ e).trans hx, h.2⟩
theorem KP.Bn (h : KP i D0 D) {a : Nat} {b2 : tBo} (hb : BD D a = none) : KP i D0 (dB D a b2) := ⟨fun x y hy hn => by
  have hx := h.1 x y hy hn
  have e : x ≠ a := fun e => by rw [e, hb] at hx; cases hx
  exact (va_up_ne _ _ e).trans hx, h.2⟩
end KPs
theorem cpO.ext {i o : Nat} {T : Nat → Nat} {D D2 : tD} {c : tB} (h : cpO i T D o c) (hq : QD D2 (5 + 8 * i + 5) o = QD D (5 + 8 * i + 5) o) (hb : ∀ a b, BD D a = some b → gB b = (i + 1, o) → BD D2 a = some b) : cpO i T D2 o c := by
  obtain ⟨a, b, q1, q2, q3, q4⟩ := h
  exact ⟨a, b, hq.trans q1, hb a b q2 q3, q3, q4⟩
theorem obO.ext {o : Nat} {T : Nat → Nat} {D D2 : tD} {c : tB} (h : obO T D o c) (hq : QD D2 1 o = QD D 1 o) (hb : ∀ a b, BD D a = some b → gB b = (0, o) → BD D2 a = some b) : obO T D2 o c := by
  obtain ⟨a, b, q1, q2, q3, q4⟩ := h
  exact ⟨a, b, hq.trans q1, hb a b q2 q3, q3, q4⟩
theorem obO.kp {i o : Nat} {T : Nat → Nat} {D0 D : tD} {c : tB} (h : obO T D0 o c) (hk : KP i D0 D) : obO T D o c := h.ext (by rw [(hk.2.2.2.2.1 1 (by omega)).2.2]) (fun a b hb hg => hk.1 a b hb (by rw [hg]; show 0 ≠ i + 1; omega))
theorem wfC.kp {i q n : Nat} {T : Nat → Nat} {D0 D : tD} (h : wfC q n T D0) (hk : KP i D0 D) (hne : q ≠ i) : wfC q n T D := fun o ho => by
  have e := (hk.2.2.2.2.1 (5 + 8 * q + 5) (by omega)).2.2
  rcases h o ho with h | ⟨h1, c, h2⟩
  · exact Or.inl (by rw [e]; exact h)
  · exact Or.inr ⟨h1, c, h2.ext (by rw [e]) (fun a b hb hg => hk.1 a b hb (by rw [hg]; show q + 1 ≠ i + 1; omega))⟩
section RPs
variable {n : Nat} {T : Nat → Nat} {k1 i : Nat} {dn th ta nx : Int32} {s : tS} {D : tD}
theorem RP.fld (h : RP n T k1 i dn th ta nx s D) {lb : Int32} (e : (rD D i).1 = lb) {dn2 th2 ta2 nx2 : Int32} {gf2 : Int64} : RP n T k1 i dn2 th2 ta2 nx2 (sGf s gf2) (dR D i (lb, dn2, gf2, th2, ta2, some k1, nx2)) := by
  obtain ⟨h1, h2, ⟨lb', h3, h4⟩, h5⟩ := h
  have : lb' = lb := by rw [← e, h3]
  subst this
  exact ⟨h1, h2, ⟨_, va_up_self _ _ _, h4⟩, h5⟩
theorem RP.val (h : RP n T k1 i dn th ta nx s D) (x : Nat) (v : Int64) : RP n T k1 i dn th ta nx (sVa s x v) (dJ D (5 + 8 * i + 7) (vp_updL (JD D (5 + 8 * i + 7)) x v)) := by
  obtain ⟨h1, h2, h3, h4, h5, h6, h7⟩ := h
  refine ⟨h1, h2, h3, h4, h5, fun y hy => ?_, h7⟩
  show va_up (JD D) (5 + 8 * i + 7) (vp_updL (JD D (5 + 8 * i + 7)) x v) (5 + 8 * i + 7) y = va_up (vaS s) x v y
  rw [va_up_self]
  unfold vp_updL va_up
  split
  · rfl
  · exact h6 y hy
theorem RP.hnd (h : RP n T k1 i dn th ta nx s D) (x : Nat) {v : Int32} (hv : okHa n v) : RP n T k1 i dn th ta nx (sHa s x v) (dI D (5 + 8 * i + 6) (upd (ID D (5 + 8 * i + 6)) x v)) := by
  obtain ⟨h1, h2, h3, h4, h5, h7⟩ := h
  refine ⟨h1, okS_ha h2 hv, h3, ?_, fun y hy => ?_, h7⟩
  · show TRC (trS s) (eD D i) (va_up (ID D) (5 + 8 * i + 6) _ (5 + 8 * i + 2)) (va_up (ID D) (5 + 8 * i + 6) _ (5 + 8 * i + 3)) (va_up (ID D) (5 + 8 * i + 6) _ (5 + 8 * i + 4))
    rw [va_up_ne _ _ (by omega), va_up_ne _ _ (by omega), va_up_ne _ _ (by omega)]
    exact h4
  · show va_up (ID D) (5 + 8 * i + 6) (upd (ID D (5 + 8 * i + 6)) x v) (5 + 8 * i + 6) y = va_up (haS s) x v y
    rw [va_up_self]
    unfold upd va_up
    split
    · rfl
    · exact h5 y hy
/-- a copy gets new contents -/
theorem RP.cel (h : RP n T k1 i dn th ta nx s D) {o a : Nat} {b : tBo} {c2 cn : tB} (ho : o < n) (hb : BD D a = some b) (hg : gB b = (i + 1, o)) (hy : yB b = T o) (hq : QD D (5 + 8 * i + 5) o = some a) (hl : ldS s o = true) (he : eqB (T o) c2 cn) (hk : okBd n (T o) cn) : RP n T k1 i dn th ta nx (sBd s o cn) (dB D a (stB b c2)) := by
  obtain ⟨h1, h2, h3, h4, h5, h6, h7, h8, h9⟩ := h
  have hB : BD (dB D a (stB b c2)) a = some (stB b c2) := va_up_self _ _ _
  have hO : ∀ x y, BD D x = some y → gB y ≠ (i + 1, o) → BD (dB D a (stB b c2)) x = some y := fun x y hx hn => (va_up_ne _ _ (fun e => by rw [e, hb] at hx; cases hx; exact hn hg)).trans hx
  have hnew : ∀ c, eqB (T o) c2 c → cpO i T (dB D a (stB b c2)) o c := fun c hc => ⟨a, stB b c2, hq, hB, hg, hy, hc⟩
  refine ⟨h1, okS_bd h2 hk, h3, h4, h5, h6, fun q hq2 => ?_, fun q hq2 => ?_, fun q hq2 => ⟨fun hl2 => ?_, fun hl2 => ?_⟩⟩
  · rcases h7 q hq2 with w | ⟨w1, c, w2⟩
    · exact Or.inl w
    · refine Or.inr ⟨w1, ?_⟩
      by_cases e : q = o
      · subst e; exact ⟨_, hnew c2 eqB.rf⟩
      · exact ⟨c, w2.ext rfl (fun x y hx hg2 => hO x y hx (by rw [hg2]; exact fun z => e (congrArg Prod.snd z)))⟩
  · obtain ⟨c, w⟩ := h8 q hq2
    exact ⟨c, w.ext rfl (fun x y hx hg2 => hO x y hx (by rw [hg2]; exact fun z => absurd (congrArg Prod.fst z) (by show ¬ 0 = i + 1; omega)))⟩
  · show cpO i T _ q (va_up (bdS s) o cn q)
    by_cases e : q = o
    · subst e; rw [va_up_self]; exact hnew cn he
    · rw [va_up_ne _ _ e]
      exact ((h9 q hq2).1 hl2).ext rfl (fun x y hx hg2 => hO x y hx (by rw [hg2]; exact fun z => e (congrArg Prod.snd z)))
  · show obO T _ q (va_up (bdS s) o cn q)
    have e : q ≠ o := fun e => by subst e; have hl2 : ldS s q = false := hl2; rw [hl] at hl2; cases hl2
    rw [va_up_ne _ _ e]
    exact ((h9 q hq2).2 hl2).ext rfl (fun x y hx hg2 => hO x y hx (by rw [hg2]; exact fun z => absurd (congrArg Prod.fst z) (by show ¬ 0 = i + 1; omega)))
/-- an object is loaded: its copy stands, with the contents that it has -/
theorem RP.ld (h : RP n T k1 i dn th ta nx s D) {D2 : tD} {o a : Nat} {b : tBo} {lb : Int32} (ho : o < n) (e1 : rD D i = (lb, dn, gfS s, th, ta, some k1, nx)) (hb : BD D2 a = some b) (hg : gB b = (i + 1, o)) (hy : yB b = T o) (he : eqB (T o) (cB b) (bdS s o)) (hq : QD D2 = va_up (QD D) (5 + 8 * i + 5) (va_up (QD D (5 + 8 * i + 5)) o (some a))) (hB : ∀ x y, BD D x = some y → gB y ≠ (i + 1, o) → BD D2 x = some y) (hr : rD D2 i = (lb ||| ((1 : Int32) <<< (nI o &&& 31)), dn, gfS s, th, ta, some k1, nx)) (hE : eD D2 i = eD D i) (hI : ID D2 = ID D) (hJ : JD D2 = JD D) : RP n T k1 i dn th ta nx (sLd s o) D2 := by
  obtain ⟨h1, h2, ⟨lb', h3, h3b⟩, h4, h5, h6, h7, h8, h9⟩ := h
  have : lb' = lb := by rw [h3] at e1; exact congrArg Prod.fst e1
  subst this
  have h24 := h1.1
  have hq5 : ∀ q, QD D2 (5 + 8 * i + 5) q = va_up (QD D (5 + 8 * i + 5)) o (some a) q := fun q => by rw [hq, va_up_self]
  have hq1 : QD D2 1 = QD D 1 := by rw [hq, va_up_ne _ _ (by omega)]
  have hnew : cpO i T D2 o (bdS s o) := ⟨a, b, by rw [hq5, va_up_self], hb, hg, hy, he⟩
  refine ⟨h1, okS_ld h2 ho, ⟨_, hr, fun q hq2 => ?_⟩, by rw [hE, hI]; exact h4, by rw [hI]; exact h5, by rw [hJ]; exact h6, fun q hq2 => ?_, fun q hq2 => ?_, fun q hq2 => ⟨fun hl2 => ?_, fun hl2 => ?_⟩⟩
  · rw [bt_or (by omega) hq2, h3b q hq2]
    show (ldS s q || decide (q = o)) = va_up (ldS s) o true q
    by_cases e : q = o
    · subst e; rw [va_up_self]; simp
    · rw [va_up_ne _ _ e]; simp [e]
  · by_cases e : q = o
    · subst e; exact Or.inr ⟨ho, _, hnew⟩
    · rcases h7 q hq2 with w | ⟨w1, c, w2⟩
      · exact Or.inl (by rw [hq5, va_up_ne _ _ e]; exact w)
      · exact Or.inr ⟨w1, c, w2.ext (by rw [hq5, va_up_ne _ _ e]) (fun x y hx hg2 => hB x y hx (by rw [hg2]; exact fun z => e (congrArg Prod.snd z)))⟩
  · obtain ⟨c, w⟩ := h8 q hq2
    exact ⟨c, w.ext (by rw [hq1]) (fun x y hx hg2 => hB x y hx (by rw [hg2]; exact fun z => absurd (congrArg Prod.fst z) (by show ¬ 0 = i + 1; omega)))⟩
  · by_cases e : q = o
    · subst e; exact hnew
    · have hl2 : va_up (ldS s) o true q = true := hl2
      rw [va_up_ne _ _ e] at hl2
      exact ((h9 q hq2).1 hl2).ext (by rw [hq5, va_up_ne _ _ e]) (fun x y hx hg2 => hB x y hx (by rw [hg2]; exact fun z => e (congrArg Prod.snd z)))
  · have e : q ≠ o := fun e => by
      have hl2 : va_up (ldS s) o true q = false := hl2
      rw [e, va_up_self] at hl2; cases hl2
    have hl2 : va_up (ldS s) o true q = false := hl2
    rw [va_up_ne _ _ e] at hl2
    exact ((h9 q hq2).2 hl2).ext (by rw [hq1]) (fun x y hx hg2 => hB x y hx (by rw [hg2]; exact fun z => absurd (congrArg Prod.fst z) (by show ¬ 0 = i + 1; omega)))
/-- what is touched -/
theorem RP.tch (h : RP n T k1 i dn th ta nx s D) {D2 : tD} {c : Nat} (hc : c < 384) (hB : BD D2 = BD D) (hr : rD D2 i = rD D i) (hJ : JD D2 = JD D) (hQ : QD D2 = QD D) (h6 : ID D2 (5 + 8 * i + 6) = ID D (5 + 8 * i + 6)) (hT : TRC (tchL c (trS s)) (eD D2 i) (ID D2 (5 + 8 * i + 2)) (ID D2 (5 + 8 * i + 3)) (ID D2 (5 + 8 * i + 4))) : RP n T k1 i dn th ta nx (sTc s c) D2 := by
  obtain ⟨h1, h2, ⟨lb, h3, h3b⟩, h4, h5, h6b, h7, h8, h9⟩ := h
  refine ⟨h1, okS_tc h2 hc, ⟨lb, hr.trans h3, h3b⟩, hT, by rw [h6]; exact h5, by rw [hJ]; exact h6b, fun q hq => ?_, fun q hq => ?_, fun q hq => ⟨fun hl => ?_, fun hl => ?_⟩⟩
  · rcases h7 q hq with w | ⟨w1, c, w2⟩
    · exact Or.inl (by rw [hQ]; exact w)
    · exact Or.inr ⟨w1, c, w2.ext (by rw [hQ]) (fun x y hx _ => by rw [hB]; exact hx)⟩
  · obtain ⟨c, w⟩ := h8 q hq
    exact ⟨c, w.ext (by rw [hQ]) (fun x y hx _ => by rw [hB]; exact hx)⟩
  · exact ((h9 q hq).1 hl).ext (by rw [hQ]) (fun x y hx _ => by rw [hB]; exact hx)
  · exact ((h9 q hq).2 hl).ext (by rw [hQ]) (fun x y hx _ => by rw [hB]; exact hx)
end RPs
/-! how many are loaded -/
def nld (s : tS) : Nat := cnt (ldS s) 24
theorem nld_le (s : tS) : nld s ≤ 24 := cnt_le _ _
theorem cnt_ld {p : Nat → Bool} {o : Nat} (m : Nat) (ho : o < m) : cnt (va_up p o true) m = cnt p m + (if p o = true then 0 else 1) := by
  cases h : p o with
  | true =>
    rw [if_pos rfl]
    exact cnt_c m (fun q _ => by
      by_cases e : q = o
      · rw [e, va_up_self, h]
      · exact va_up_ne _ _ e)
  | false => rw [if_neg (by simp)]; exact cnt_up h m ho
theorem nld_ld {s : tS} {o : Nat} (ho : o < 24) : nld (sLd s o) = nld s + (if ldS s o = true then 0 else 1) := cnt_ld 24 ho
