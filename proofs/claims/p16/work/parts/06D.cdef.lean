/-! a body at an address; a row of versions -/
def BF (G : mG) (f : mF) (a : Nat) (b : tBo) : Prop := f a = some (.inr (2, [.int (nI (yB b)), .ref (caB b), .ref (iaB b), .int (siB b), va_rf (bfB b)])) ∧ f (caB b) = some (.inl (gk G 1, 8, .inr (.inl (cB b).1))) ∧ f (iaB b) = some (.inl (gk G 0, 16, .inl (cB b).2))
theorem CM.bf {G : mG} {k : Nat → Nat} {own : tR} {n : Nat} {z : Nat → Nat} {D : tD} {f : mF} (h : CM G k own n z D f) {a : Nat} {b : tBo} (hb : BD D a = some b) : BF G f a b := ⟨h.p0 a b hb, h.p1 a b hb, h.p2 a b hb⟩
def chn (B : Nat → Option tBo) (o t : Nat) (ver : Nat → tB) : Nat → List Nat → Prop
  | _, [] => False
  | h, [a] => ∃ b, B a = some b ∧ gB b = (0, o) ∧ yB b = t ∧ bfB b = none ∧ ∀ x, x ≤ h → eqB t (cB b) (ver x)
  | h, a :: a2 :: L => ∃ b s, B a = some b ∧ gB b = (0, o) ∧ yB b = t ∧ bfB b = some a2 ∧ siB b = nI s ∧ 1 ≤ s ∧ s ≤ h ∧ (∀ x, s ≤ x → x ≤ h → eqB t (cB b) (ver x)) ∧ chn B o t ver (s - 1) (a2 :: L)
theorem chn.ext {B B2 : Nat → Option tBo} {o t : Nat} {ver ver2 : Nat → tB} (hB : ∀ a b, B a = some b → gB b = (0, o) → B2 a = some b) : ∀ (h : Nat) (L : List Nat), (∀ x, x ≤ h → eqB t (ver x) (ver2 x)) → chn B o t ver h L → chn B2 o t ver2 h L
  | _, [], _, c => c
  | h, [a], hv, c => by
    obtain ⟨b, c1, c2, c3, c4, c5⟩ := c
    exact ⟨b, hB a b c1 c2, c2, c3, c4, fun x hx => (c5 x hx).tr (hv x hx)⟩
  | h, a :: a2 :: L, hv, c => by
    obtain ⟨b, s, c1, c2, c3, c4, c5, c6, c7, c8, c9⟩ := c
    exact ⟨b, s, hB a b c1 c2, c2, c3, c4, c5, c6, c7, fun x h1 h2 => (c8 x h1 h2).tr (hv x h2), chn.ext hB (s - 1) (a2 :: L) (fun x hx => hv x (by omega)) c9⟩
/-- nothing of it has changed at a new height -/
theorem chn.up {B : Nat → Option tBo} {o t : Nat} {ver : Nat → tB} {h : Nat} (he : eqB t (ver h) (ver (h + 1))) : ∀ {L : List Nat}, chn B o t ver h L → chn B o t ver (h + 1) L
  | [], c => c
  | [a], c => by
    obtain ⟨b, c1, c2, c3, c4, c5⟩ := c
    refine ⟨b, c1, c2, c3, c4, fun x hx => ?_⟩
    by_cases e : x = h + 1
    · subst e; exact (c5 h (Nat.le_refl _)).tr he
    · exact c5 x (by omega)
  | a :: a2 :: L, c => by
    obtain ⟨b, s, c1, c2, c3, c4, c5, c6, c7, c8, c9⟩ := c
    refine ⟨b, s, c1, c2, c3, c4, c5, c6, by omega, fun x h1 h2 => ?_, c9⟩
    by_cases e : x = h + 1
    · subst e; exact (c8 h c7 (Nat.le_refl _)).tr he
    · exact c8 x h1 (by omega)
/-- a new version ahead of the others -/
theorem chn.new {B : Nat → Option tBo} {o t a0 : Nat} {b0 : tBo} {ver : Nat → tB} {h : Nat} (h0 : B a0 = some b0) (g0 : gB b0 = (0, o)) (y0 : yB b0 = t) (s0 : siB b0 = nI (h + 1)) (e0 : eqB t (cB b0) (ver (h + 1))) : ∀ {a : Nat} {L : List Nat}, bfB b0 = some a → chn B o t ver h (a :: L) → chn B o t ver (h + 1) (a0 :: a :: L) := fun {a L} hb c => ⟨b0, h + 1, h0, g0, y0, hb, s0, by omega, Nat.le_refl _, fun x h1 h2 => by rw [show x = h + 1 by omega]; exact e0, c⟩
theorem chn.hd {B : Nat → Option tBo} {o t : Nat} {ver : Nat → tB} {h a : Nat} {L : List Nat} (c : chn B o t ver h (a :: L)) : ∃ b, B a = some b ∧ gB b = (0, o) ∧ yB b = t ∧ eqB t (cB b) (ver h) := by
  cases L with
  | nil => obtain ⟨b, c1, c2, c3, c4, c5⟩ := c; exact ⟨b, c1, c2, c3, c5 h (Nat.le_refl _)⟩
  | cons a2 L => obtain ⟨b, s, c1, c2, c3, c4, c5, c6, c7, c8, c9⟩ := c; exact ⟨b, c1, c2, c3, c8 h c7 (Nat.le_refl _)⟩
theorem chn.ne {B : Nat → Option tBo} {o t : Nat} {ver : Nat → tB} {h : Nat} {L : List Nat} (c : chn B o t ver h L) : ∃ a M, L = a :: M := by
  cases L with
  | nil => exact c.elim
  | cons a M => exact ⟨a, M, rfl⟩
/-- a Trace that holds the list l -/
def TQ (G : mG) (k : Nat → Nat) (i : Nat) (l : List Nat) (f : mF) : Prop := ∃ (e : Int32 × Int32) (en rb cb : Nat → Int32), f (k (5 + 8 * i + 1)) = some (.inr (4, [.ref (k (5 + 8 * i + 2)), .int e.1, .int e.2, .ref (k (5 + 8 * i + 3)), .ref (k (5 + 8 * i + 4))])) ∧ f (k (5 + 8 * i + 2)) = some (.inl (gk G 0, 384, .inl en)) ∧ f (k (5 + 8 * i + 3)) = some (.inl (gk G 0, 24, .inl rb)) ∧ f (k (5 + 8 * i + 4)) = some (.inl (gk G 0, 24, .inl cb)) ∧ TRC l e en rb cb
theorem up_self {f : mF} {a : Nat} {e : va_E} (h : f a = some e) : f = va_up f a (some e) := by
  funext b
  by_cases hb : b = a
  · subst hb; rw [va_up_self]; exact h
  · rw [va_up_ne _ _ hb]
theorem fillI {g : Nat → Int32} {v : Int32} {A : Int} {k : Nat} (h : ∀ j : Nat, (j : Int) < A → g j = v) (hk : (k : Int) = A) : ∀ j : Nat, (j : Int) < A + 1 → upd g k v j = v := by
  intro j hj
  unfold upd
  split
  · rfl
  · exact h j (by omega)
theorem fillL {g : Nat → Int64} {v : Int64} {A : Int} {k : Nat} (h : ∀ j : Nat, (j : Int) < A → g j = v) (hk : (k : Int) = A) : ∀ j : Nat, (j : Int) < A + 1 → vp_updL g k v j = v := by
  intro j hj
  unfold vp_updL
  split
  · rfl
  · exact h j (by omega)
theorem nf_of {f fc : mF} {q q1 : Nat} {x : va_E} (hex : ∀ (a : Nat) (e : va_E), a ≠ q → f a = some e → fc a = some e) (Fq : fc q = some x) (hlt : ∀ (a : Nat) (e : va_E), fc a = some e → a < q1) : f q1 = none := by
  cases hq : f q1 with
  | none => rfl
  | some e =>
    by_cases hz : q1 = q
    · subst hz; exact absurd (hlt _ _ Fq) (Nat.lt_irrefl _)
    · exact absurd (hlt _ _ (hex _ _ hz hq)) (Nat.lt_irrefl _)
theorem ex_eq {f1 f2 : mF} {a q : Nat} {e : va_E} (hex : ∀ (a : Nat) (e : va_E), a ≠ q → f1 a = some e → f2 a = some e) (hne : a ≠ q) (F : f1 a = some e) : f2 a = f1 a := (hex a e hne F).trans F.symm
theorem upn {f f2 : mF} {a b : Nat} {e : Option va_E} (ef : f2 = va_up f a e) (hne : b ≠ a) : f2 b = f b := by rw [ef, va_up_ne _ _ hne]
theorem list_eq {l m : List Nat} (h : l.length = m.length) (he : ∀ i, i < l.length → l.getD i 0 = m.getD i 0) : l = m := by
  apply List.ext_getElem h
  intro i h1 h2
  have := he i h1
  rw [List.getD_eq_getElem?_getD, List.getElem?_eq_getElem h1, List.getD_eq_getElem?_getD, List.getElem?_eq_getElem h2] at this
  exact this
