/-! how the invariants grow: an object more, an act more, none -/
theorem updL_far {g : Nat → Int64} {k i : Nat} {v : Int64} (h : i ≠ k) : vp_updL g k v i = g i := by unfold vp_updL; rw [if_neg h]
theorem updL_at {g : Nat → Int64} {k : Nat} {v : Int64} : vp_updL g k v k = v := by unfold vp_updL; rw [if_pos rfl]
theorem objs_far {rho : tR} {n o : Nat} {T : Nat → Nat} {g : Nat → Option Nat} {b : Nat} (hp : ∀ o, o < n → ∃ b, g o = some b ∧ rho b = (1, T o)) (ho : n ≤ o) : ∀ q, q < n → ∃ b2, va_up g o (some b) q = some b2 ∧ rho b2 = (1, T q) := by
  intro q hq
  rw [va_up_ne _ _ (by omega)]
  exact hp q hq
theorem IC.grow {G : mG} {k : Nat → Nat} {rho : tR} {n : Nat} {T z : Nat → Nat} {st : Nat → Bool} {f f2 : mF} (hI : IC G k rho n T z st f) (hn : n < 24) {g : Nat → Option Nat} {b t : Nat} {fs2 : List Value} (hg : f (k 1) = some (.inl (gk G 3, 24, .inr (.inr (.inr (.inr g)))))) (hb : g n = some b) (hr : rho b = (1, t)) (ht : t < 3) (ef : f2 = va_up f (k 0) (some (.inr (5, fs2)))) (he : okLS k (n + 1) (some (.inr (5, fs2)))) : IC G k rho (n + 1) (fun o => if o = n then t else T o) z st f2 := by
  refine ⟨fun j hj => ?_, fun a => ?_, fun i hi => ?_, fun i hi => ?_, hI.2.2.2.2.1, hI.2.2.2.2.2.1, by omega, fun o => ?_, hI.2.2.2.2.2.2.2.2⟩
  · by_cases h0 : j = 0
    · subst h0; rw [ef, va_up_self]; exact he
    rw [ef, va_up_ne _ _ (neC hI.2.2.2.2.1 hj (by omega) h0)]
    have hp := hI.1 j hj
    unfold okC at hp ⊢
    rw [if_neg h0] at hp ⊢
    split at hp
    · rename_i h1
      rw [if_pos h1]
      subst h1
      obtain ⟨g2, e1, hg2⟩ := hp
      have eg : g2 = g := by rw [hg] at e1; cases e1; rfl
      rw [eg] at hg2
      refine ⟨g, hg, fun o ho => ?_⟩
      by_cases hon : o = n
      · subst hon; exact ⟨b, hb, by show rho b = (1, if o = o then t else T o); rw [if_pos rfl]; exact hr⟩
      · obtain ⟨b2, q1, q2⟩ := hg2 o (by omega)
        exact ⟨b2, q1, by show rho b2 = (1, if o = n then t else T o); rw [if_neg hon]; exact q2⟩
    rw [if_neg ‹_›]
    split at hp
    · rw [if_pos ‹_›]; exact hp
    rw [if_neg ‹_›]
    split at hp
    · rw [if_pos ‹_›]; exact hp
    rw [if_neg ‹_›]
    split at hp
    · rw [if_pos ‹_›]
      unfold okR at hp ⊢
      split at hp <;> first | exact hp | skip
      · obtain ⟨g2, e1, hg2⟩ := hp
        exact ⟨g2, e1, fun o ho => by
          rcases hg2 o ho with q | ⟨q, b2, q1, q2⟩
          · exact Or.inl q
          · exact Or.inr ⟨by omega, b2, q1, by show rho b2 = (1, if o = n then t else T o); rw [if_neg (by omega)]; exact q2⟩⟩
      · obtain ⟨g2, e1, hg2⟩ := hp
        by_cases hn0 : n = 0
        · exact ⟨g2, e1, fun o ho => by have := hg2 o ho; omega⟩
        · exact ⟨g2, e1, fun o ho => by have := hg2 o ho; omega⟩
    rw [if_neg ‹_›]
    split at hp
    · rw [if_pos ‹_›]; exact hp
    rw [if_neg ‹_›]
    exact hp
  · by_cases ha : a = k 0
    · have h0 := hI.2.2.2.2.2.1 0 (by omega)
      rw [ha]
      unfold okP
      rw [h0]
      trivial
    · rw [ef, va_up_ne _ _ ha]
      have hp := hI.2.1 a
      unfold okP at hp ⊢
      split at hp
      · trivial
      · exact hp
      · obtain ⟨g2, e1, hg2⟩ := hp
        exact ⟨g2, e1, fun j hj => ⟨fun h => by rcases (hg2 j hj).1 h with q | q; exact Or.inl q; exact Or.inr ⟨q.1, by omega⟩, (hg2 j hj).2⟩⟩
      · exact hp
      · exact hp
  · rw [ef]; exact (hI.2.2.1 i hi).other hI.2.2.2.2.1 hi (by omega) (by omega) (by omega)
  · rw [ef]; exact (hI.2.2.2.1 i hi).other hI.2.2.2.2.1 hi (by omega) (by omega) (by omega) (by omega)
  · show (if o = n then t else T o) < 3
    split
    · exact ht
    · exact hI.2.2.2.2.2.2.2.1 o
theorem IC.ext {G : mG} {k : Nat → Nat} {rho : tR} {n : Nat} {T z : Nat → Nat} {st : Nat → Bool} {f f2 : mF} (hI : IC G k rho n T z st f) (hk : ∀ j, j < 41 → f2 (k j) = f (k j)) (hp : ∀ a, (rho a).1 ≠ 0 → f2 a = f a) : IC G k rho n T z st f2 := by
  refine ⟨fun j hj => by rw [hk j hj]; exact hI.1 j hj, fun a => ?_, fun i hi fs lb g e0 e1 e2 => hI.2.2.1 i hi fs lb g (by rw [← hk _ (by omega)]; exact e0) e1 (by rw [← hk _ (by omega)]; exact e2), fun i hi fs ct r q e0 e1 e2 e3 => hI.2.2.2.1 i hi fs ct r q (by rw [← hk _ (by omega)]; exact e0) e1 (by rw [← hk _ (by omega)]; exact e2) (by rw [← hk _ (by omega)]; exact e3), hI.2.2.2.2⟩
  by_cases h0 : (rho a).1 = 0
  · unfold okP
    rw [h0]
    trivial
  · rw [hp a h0]; exact hI.2.1 a
theorem IM.ext {G : mG} {h : Nat → Nat} {n : Nat} {T : Nat → Int32} {z : Nat → Nat} {A : Nat → tA} {f f2 : mF} (hI : IM G h n T z A f) (hk : ∀ j, j < 30 → f2 (h j) = f (h j)) : IM G h n T z A f2 :=
  ⟨fun k h30 => by rw [hk k h30]; exact hI.1 k h30, fun fs tm tl th e0 e1 e2 e3 => hI.2.1 fs tm tl th (by rw [← hk 0 (by omega)]; exact e0) e1 (by rw [← hk 20 (by omega)]; exact e2) (by rw [← hk 21 (by omega)]; exact e3), hI.2.2⟩
theorem pNu_grow {n : Nat} {T : Nat → Int32} {nu : Nat → Int64} {ty : Int32} (hp : pNu n T nu) : pNu (n + 1) (upd T n ty) nu := by
  intro L hL
  refine ⟨fun h => (hp L hL).1 (by omega), fun h hs => ?_⟩
  by_cases he : L % 192 / 8 = n
  · rw [(hp L hL).1 (by omega)]
    have := kJ_0
    omega
  · have := (hp L hL).2 (by omega) (by rw [upd_far he] at hs; exact hs)
    omega
theorem rM_rest : ∀ k, k < 30 → rM k = true → k = 0 ∨ k = 1 ∨ k = 3 ∨ k = 4 ∨ k = 5 ∨ k = 6 ∨ k = 8 ∨ k = 9 ∨ k = 10 ∨ k = 11 ∨ k = 12 ∨ k = 13 ∨ k = 14 ∨ k = 15 ∨ k = 20 ∨ k = 21 ∨ k = 23 ∨ k = 24 ∨ k = 26 ∨ k = 27 := by
  intro k hk hr
  have hn : k ≠ 2 ∧ k ≠ 7 ∧ k ≠ 16 ∧ k ≠ 17 ∧ k ≠ 18 ∧ k ≠ 19 ∧ k ≠ 22 ∧ k ≠ 25 ∧ k ≠ 28 ∧ k ≠ 29 := by
    refine ⟨?_, ?_, ?_, ?_, ?_, ?_, ?_, ?_, ?_, ?_⟩ <;> (rintro rfl; exact absurd hr (by decide))
  omega
theorem IM.grow {G : mG} {h : Nat → Nat} {n : Nat} {T : Nat → Int32} {z : Nat → Nat} {A : Nat → tA} {f f1 f2 : mF} (hI : IM G h n T z A f) (hn : n < 24) {fs fs2 : List Value} {g : Nat → Int32} {o : Nat} {ty : Int32} (ho : o = n) (hg : f (h 1) = some (.inl (gk G 0, 24, .inl g))) (e0 : f (h 0) = some (.inr (6, fs))) (hs : fs2[19]? = fs[19]?) (he : okM0 h (n + 1) (some (.inr (6, fs2)))) (e1 : f1 = va_up f (h 0) (some (.inr (6, fs2)))) (e2 : f2 = va_up f1 (h 1) (some (.inl (gk G 0, 24, .inl (upd g o ty))))) : IM G h (n + 1) (upd T n ty) z A f2 := by
  have hj := hI.2.2.1
  refine ⟨fun k hk => ?_, ?_, hj, by omega, hI.2.2.2.2⟩
  · cases hr : rM k with
    | false => exact okM_no k hk hr
    | true =>
      by_cases h0 : k = 0
      · subst h0
        rw [e2, va_up_ne _ _ (neM hj (by omega) (by omega) (by omega)), e1, va_up_self]
        exact he
      by_cases h1 : k = 1
      · subst h1
        rw [e2, va_up_self]
        obtain ⟨g2, q1, q2⟩ : okI G 0 24 (fun g => ∀ o, o < n → g o = T o) (f (h 1)) := hI.1 1 (by omega)
        have eg : g2 = g := by rw [hg] at q1; cases q1; rfl
        rw [eg] at q2
        show okI G 0 24 (fun g => ∀ o, o < n + 1 → g o = upd T n ty o) _
        exact ⟨_, rfl, fun q hq => by
          by_cases hqn : q = n
          · rw [hqn, ho, upd_at, upd_at]
          · rw [ho, upd_far hqn, upd_far hqn]; exact q2 q (by omega)⟩
      have eq : f2 (h k) = f (h k) := by rw [e2, va_up_ne _ _ (fun q => h1 (hj k 1 hk (by omega) q hr rfl)), e1, va_up_ne _ _ (fun q => h0 (hj k 0 hk (by omega) q hr rfl))]
      rw [eq]
      have hp := hI.1 k hk
      by_cases h3 : k = 3
      · subst h3
        obtain ⟨g2, q1, q2⟩ : okJ G 8064 (pNu n T) (f (h 3)) := hp
        show okJ G 8064 (pNu (n + 1) (upd T n ty)) _
        exact ⟨g2, q1, pNu_grow q2⟩
      by_cases h26 : k = 26
      · subst h26
        obtain ⟨g2, q1, q2⟩ : okI G 0 4 (fun g => ∀ i, i < 4 → -3 ≤ (g i).toInt ∧ ((g i).toInt < n ∨ (n = 0 ∧ (g i).toInt = 0))) (f (h 26)) := hp
        show okI G 0 4 (fun g => ∀ i, i < 4 → -3 ≤ (g i).toInt ∧ ((g i).toInt < (n + 1 : Nat) ∨ (n + 1 = 0 ∧ (g i).toInt = 0))) _
        exact ⟨g2, q1, fun i hi => by have := q2 i hi; omega⟩
      rcases rM_rest k hk hr with q | q | q | q | q | q | q | q | q | q | q | q | q | q | q | q | q | q | q | q
      · exact absurd q h0
      · exact absurd q h1
      · exact absurd q h3
      all_goals first | (subst q; exact hp) | exact absurd q h26
  · rw [e2, e1]
    exact (hI.2.1.obj hj e0 hs).arr hj 1 (by omega) (by omega) (by omega) (by omega)
theorem IM.setZ {G : mG} {h : Nat → Nat} {n : Nat} {T : Nat → Int32} {z z2 : Nat → Nat} {A A2 : Nat → tA} {f f2 : mF} {e : va_E} (hI : IM G h n T z A f) (ef : f2 = va_up f (h 9) (some e)) (h9 : okI G 0 6 (fun g => ∀ b, b < 6 → g b = nI (z2 b)) (some e)) (hz : ∀ b, z2 b ≤ 32) (hok : ∀ b, b < 6 → ∀ p, p < z2 b → okA (A2 (32 * b + p))) (h10 : okI G 0 192 (fun g => ∀ k, vld z2 k → g k = (A2 k).1) (f (h 10))) (h11 : okI G 0 192 (fun g => ∀ k, vld z2 k → g k = (A2 k).2.1) (f (h 11))) (h12 : okJ G 192 (fun g => ∀ k, vld z2 k → g k = (A2 k).2.2.1) (f (h 12))) (h13 : okI G 0 192 (fun g => ∀ k, vld z2 k → g k = (A2 k).2.2.2.1) (f (h 13))) (h14 : okI G 0 192 (fun g => ∀ k, vld z2 k → g k = (A2 k).2.2.2.2.1) (f (h 14))) (h15 : okI G 0 192 (fun g => ∀ k, vld z2 k → g k = (A2 k).2.2.2.2.2) (f (h 15))) : IM G h n T z2 A2 f2 := by
  have hj := hI.2.2.1
  refine ⟨fun k hk => ?_, ?_, hj, hI.2.2.2.1, hz, hok⟩
  · cases hr : rM k with
    | false => exact okM_no k hk hr
    | true =>
      by_cases h9k : k = 9
      · subst h9k
        rw [ef, va_up_self]
        exact h9
      rw [ef, va_up_ne _ _ (fun q => h9k (hj k 9 hk (by omega) q hr rfl))]
      have hp := hI.1 k hk
      rcases rM_rest k hk hr with q | q | q | q | q | q | q | q | q | q | q | q | q | q | q | q | q | q | q | q
      all_goals first | exact absurd q h9k | (subst q; first | exact hp | exact h10 | exact h11 | exact h12 | exact h13 | exact h14 | exact h15)
  · rw [ef]
    exact hI.2.1.arr hj 9 (by omega) (by omega) (by omega) (by omega)
theorem vld_up {z : Nat → Nat} {b k : Nat} (h : vld (fun q => if q = b then z q + 1 else z q) k) : k = 32 * b + z b ∨ vld z k := by
  obtain ⟨h1, h2⟩ := h
  by_cases hb : k / 32 = b
  · have h2 : k % 32 < (if k / 32 = b then z (k / 32) + 1 else z (k / 32)) := h2
    rw [if_pos hb, hb] at h2
    by_cases hq : k % 32 = z b
    · left; omega
    · right; exact ⟨h1, by rw [hb]; omega⟩
  · have h2 : k % 32 < (if k / 32 = b then z (k / 32) + 1 else z (k / 32)) := h2
    rw [if_neg hb] at h2
    exact Or.inr ⟨h1, h2⟩
theorem vld_nei {z : Nat → Nat} {b k i : Nat} (h : vld z k) (hi : i = 32 * b + z b) (hz : z b < 32) : k ≠ i := by
  intro e
  obtain ⟨h1, h2⟩ := h
  have e1 : k / 32 = b := by omega
  rw [e1] at h2
  omega
theorem act_col {α : Type} {z : Nat → Nat} {A : Nat → tA} {b : Nat} {t : tA} {g : Nat → α} {pr : tA → α} (hp : ∀ k, vld z k → g k = pr (A k)) (hi : g (32 * b + z b) = pr t) : ∀ k, vld (fun q => if q = b then z q + 1 else z q) k → g k = pr (if k = 32 * b + z b then t else A k) := by
  intro k hk
  by_cases e : k = 32 * b + z b
  · rw [if_pos e, e]; exact hi
  · rw [if_neg e]; exact hp k ((vld_up hk).resolve_left e)
theorem okA_up {z : Nat → Nat} {A : Nat → tA} {b : Nat} {t : tA} (hz : ∀ b, z b ≤ 32) (hb : z b < 32) (ho : ∀ b, b < 6 → ∀ p, p < z b → okA (A (32 * b + p))) (ht : okA t) : ∀ q, q < 6 → ∀ p, p < (fun q => if q = b then z q + 1 else z q) q → okA ((fun k => if k = 32 * b + z b then t else A k) (32 * q + p)) := by
  intro q hq p hp
  have hp : p < (if q = b then z q + 1 else z q) := hp
  show okA (if 32 * q + p = 32 * b + z b then t else A (32 * q + p))
  by_cases e : 32 * q + p = 32 * b + z b
  · rw [if_pos e]; exact ht
  · rw [if_neg e]
    refine ho q hq p ?_
    have := hz q
    by_cases hqb : q = b
    · subst hqb; rw [if_pos rfl] at hp; omega
    · rw [if_neg hqb] at hp; exact hp
theorem many_up {z : Nat → Nat} {g : Nat → Int32} {b : Nat} {v : Int32} (hp : ∀ b, b < 6 → g b = nI (z b)) (hv : v = nI (z b + 1)) : ∀ q, q < 6 → upd g b v q = nI ((fun q => if q = b then z q + 1 else z q) q) := by
  intro q hq
  show upd g b v q = nI (if q = b then z q + 1 else z q)
  by_cases e : q = b
  · subst e; rw [upd_at, if_pos rfl]; exact hv
  · rw [upd_far e, if_neg e]; exact hp q hq
theorem many_0 {z : Nat → Nat} {g : Nat → Int32} {b : Nat} (hp : ∀ b, b < 6 → g b = nI (z b)) : ∀ q, q < 6 → upd g b 0 q = nI ((fun q => if q = b then 0 else z q) q) := by
  intro q hq
  show upd g b 0 q = nI (if q = b then 0 else z q)
  by_cases e : q = b
  · subst e; rw [upd_at, if_pos rfl]; rfl
  · rw [upd_far e, if_neg e]; exact hp q hq
theorem vld_0 {z : Nat → Nat} {b k : Nat} (h : vld (fun q => if q = b then 0 else z q) k) : vld z k := by
  obtain ⟨h1, h2⟩ := h
  have h2 : k % 32 < (if k / 32 = b then 0 else z (k / 32)) := h2
  by_cases hb : k / 32 = b
  · rw [if_pos hb] at h2; omega
  · rw [if_neg hb] at h2; exact ⟨h1, h2⟩
theorem IM.clr {G : mG} {h : Nat → Nat} {n : Nat} {T : Nat → Int32} {z : Nat → Nat} {A : Nat → tA} {f f2 : mF} {g : Nat → Int32} {b : Nat} (hI : IM G h n T z A f) (hp : ∀ b, b < 6 → g b = nI (z b)) (ef : f2 = va_up f (h 9) (some (.inl (gk G 0, 6, .inl (upd g b 0))))) : IM G h n T (fun q => if q = b then 0 else z q) A f2 := by
  have hz := hI.2.2.2.2.1
  have hle : ∀ q, (fun q => if q = b then 0 else z q) q ≤ z q := fun q => by
    show (if q = b then 0 else z q) ≤ z q
    split <;> omega
  refine hI.setZ ef ⟨_, rfl, many_0 hp⟩ (fun q => Nat.le_trans (hle q) (hz q)) (fun q hq p hpq => hI.2.2.2.2.2 q hq p (Nat.lt_of_lt_of_le hpq (hle q))) ?_ ?_ ?_ ?_ ?_ ?_
  · obtain ⟨g, e, q⟩ : okI G 0 192 (fun g => ∀ k, vld z k → g k = (A k).1) (f (h 10)) := hI.1 10 (by decide)
    exact ⟨g, e, fun k hk => q k (vld_0 hk)⟩
  · obtain ⟨g, e, q⟩ : okI G 0 192 (fun g => ∀ k, vld z k → g k = (A k).2.1) (f (h 11)) := hI.1 11 (by decide)
    exact ⟨g, e, fun k hk => q k (vld_0 hk)⟩
  · obtain ⟨g, e, q⟩ : okJ G 192 (fun g => ∀ k, vld z k → g k = (A k).2.2.1) (f (h 12)) := hI.1 12 (by decide)
    exact ⟨g, e, fun k hk => q k (vld_0 hk)⟩
  · obtain ⟨g, e, q⟩ : okI G 0 192 (fun g => ∀ k, vld z k → g k = (A k).2.2.2.1) (f (h 13)) := hI.1 13 (by decide)
    exact ⟨g, e, fun k hk => q k (vld_0 hk)⟩
  · obtain ⟨g, e, q⟩ : okI G 0 192 (fun g => ∀ k, vld z k → g k = (A k).2.2.2.2.1) (f (h 14)) := hI.1 14 (by decide)
    exact ⟨g, e, fun k hk => q k (vld_0 hk)⟩
  · obtain ⟨g, e, q⟩ : okI G 0 192 (fun g => ∀ k, vld z k → g k = (A k).2.2.2.2.2) (f (h 15)) := hI.1 15 (by decide)
    exact ⟨g, e, fun k hk => q k (vld_0 hk)⟩
/-! constructors: the cells that have been made so far, the newest first -/
def inL (q : Nat) (f0 : mF) (L : List (Nat × va_E)) (f : mF) : Prop := (∀ p ∈ L, f p.1 = some p.2) ∧ (∀ p ∈ L, q < p.1) ∧ L.Pairwise (fun x y => y.1 < x.1) ∧ (∀ p ∈ L, f0 p.1 = none) ∧ ∀ (a : Nat) (e : va_E), a ≠ q → f0 a = some e → f a = some e
theorem inL.nil {q : Nat} {f : mF} : inL q f [] f := ⟨fun _ hp => absurd hp List.not_mem_nil, fun _ hp => absurd hp List.not_mem_nil, List.Pairwise.nil, fun _ hp => absurd hp List.not_mem_nil, fun _ _ _ h => h⟩
theorem inL.put {q : Nat} {f0 f f2 : mF} {L : List (Nat × va_E)} {x : Option va_E} (h : inL q f0 L f) (ef : f2 = va_up f q x) : inL q f0 L f2 :=
  ⟨fun p hp => upk (h.1 p hp) ef (Nat.ne_of_gt (h.2.1 p hp)), h.2.1, h.2.2.1, h.2.2.2.1, fun a e h1 h2 => upk (h.2.2.2.2 a e h1 h2) ef h1⟩
theorem inL.new {q a : Nat} {f0 f f2 : mF} {L : List (Nat × va_E)} {e c : va_E} (h : inL q f0 L f) (Fq : f q = some c) (ef : f2 = va_up f a (some e)) (hlt : ∀ (b : Nat) (x : va_E), f b = some x → b < a) : inL q f0 ((a, e) :: L) f2 := by
  have hq : q < a := hlt q c Fq
  refine ⟨fun p hp => ?_, fun p hp => ?_, List.pairwise_cons.mpr ⟨fun p hp => hlt _ _ (h.1 p hp), h.2.2.1⟩, fun p hp => ?_, fun b x h1 h2 => upk (h.2.2.2.2 b x h1 h2) ef (Nat.ne_of_lt (hlt _ _ (h.2.2.2.2 b x h1 h2)))⟩
  · rcases List.mem_cons.mp hp with rfl | hp
    · rw [ef]; exact va_up_self _ _ _
    · exact upk (h.1 p hp) ef (Nat.ne_of_lt (hlt _ _ (h.1 p hp)))
  · rcases List.mem_cons.mp hp with rfl | hp
    · exact hq
    · exact h.2.1 p hp
  · rcases List.mem_cons.mp hp with rfl | hp
    · cases h0 : f0 a with
      | none => rfl
      | some x => exact absurd (hlt _ _ (h.2.2.2.2 a x (Nat.ne_of_gt hq) h0)) (Nat.lt_irrefl _)
    · exact h.2.2.2.1 p hp
theorem inL.call {q a : Nat} {f0 f f2 : mF} {L L2 : List (Nat × va_E)} {e e2 : va_E} (h : inL q f0 ((a, e) :: L) f) (h2 : inL a f L2 f2) (F2 : f2 a = some e2) : inL q f0 (L2 ++ ((a, e2) :: L)) f2 := by
  have hP := List.pairwise_cons.mp h.2.2.1
  have hqa : q < a := h.2.1 _ List.mem_cons_self
  have hle : ∀ p ∈ ((a, e2) :: L), p.1 ≤ a := fun p hp => by
    rcases List.mem_cons.mp hp with rfl | hp
    · exact Nat.le_refl _
    · exact Nat.le_of_lt (hP.1 p hp)
  refine ⟨fun p hp => ?_, fun p hp => ?_, List.pairwise_append.mpr ⟨h2.2.2.1, List.pairwise_cons.mpr ⟨hP.1, hP.2⟩, fun x hx y hy => Nat.lt_of_le_of_lt (hle y hy) (h2.2.1 x hx)⟩, fun p hp => ?_, fun b x h1 h3 => ?_⟩
  · rcases List.mem_append.mp hp with hp | hp
    · exact h2.1 p hp
    · rcases List.mem_cons.mp hp with rfl | hp
      · exact F2
      · exact h2.2.2.2.2 _ _ (Nat.ne_of_lt (hP.1 p hp)) (h.1 p (List.mem_cons_of_mem _ hp))
  · rcases List.mem_append.mp hp with hp | hp
    · exact Nat.lt_trans hqa (h2.2.1 p hp)
    · rcases List.mem_cons.mp hp with rfl | hp
      · exact hqa
      · exact h.2.1 p (List.mem_cons_of_mem _ hp)
  · rcases List.mem_append.mp hp with hp | hp
    · cases h0 : f0 p.1 with
      | none => rfl
      | some x =>
        have := h.2.2.2.2 p.1 x (Nat.ne_of_gt (Nat.lt_trans hqa (h2.2.1 p hp))) h0
        rw [h2.2.2.2.1 p hp] at this
        cases this
    · rcases List.mem_cons.mp hp with rfl | hp
      · exact h.2.2.2.1 (a, e) List.mem_cons_self
      · exact h.2.2.2.1 p (List.mem_cons_of_mem _ hp)
  · have h4 := h.2.2.2.2 b x h1 h3
    refine h2.2.2.2.2 b x (fun hb => ?_) h4
    have h0 : f0 a = none := h.2.2.2.1 (a, e) List.mem_cons_self
    rw [hb, h0] at h3
    cases h3
theorem inL.at {q : Nat} {f0 f : mF} {L : List (Nat × va_E)} {a : Nat} {e : va_E} (h : inL q f0 L f) (i : Nat) (hi : L[i]? = some (a, e)) : f a = some e := h.1 (a, e) (List.mem_of_getElem? hi)
theorem inL.lt {q : Nat} {f0 f : mF} {L : List (Nat × va_E)} {a : Nat} {e : va_E} (h : inL q f0 L f) (i : Nat) (hi : L[i]? = some (a, e)) : q < a := h.2.1 (a, e) (List.mem_of_getElem? hi)
theorem inL.sto {q : Nat} {f0 f f2 : mF} {L : List (Nat × va_E)} {a : Nat} {e e2 : va_E} (h : inL q f0 L f) (i : Nat) (hi : L[i]? = some (a, e)) (ef : f2 = va_up f a (some e2)) : inL q f0 (L.set i (a, e2)) f2 := by
  have hL := h.2.2.1
  rw [List.pairwise_iff_getElem] at hL
  obtain ⟨li, ei⟩ := List.getElem?_eq_some_iff.mp hi
  have key : ∀ p ∈ L.set i (a, e2), p = (a, e2) ∨ (p ∈ L ∧ p.1 ≠ a) := by
    intro p hp
    obtain ⟨j, hj⟩ := List.getElem?_of_mem hp
    by_cases hij : i = j
    · subst hij
      rw [List.getElem?_set_self li] at hj
      cases hj
      exact Or.inl rfl
    · rw [List.getElem?_set_ne hij] at hj
      refine Or.inr ⟨List.mem_of_getElem? hj, fun ha => ?_⟩
      obtain ⟨lj, ej⟩ := List.getElem?_eq_some_iff.mp hj
      rcases Nat.lt_or_gt_of_ne hij with q | q
      · have := hL i j li lj q
        rw [ei, ej, ha] at this
        exact Nat.lt_irrefl _ this
      · have := hL j i lj li q
        rw [ei, ej, ha] at this
        exact Nat.lt_irrefl _ this
  have ha : (a, e) ∈ L := List.mem_of_getElem? hi
  refine ⟨fun p hp => ?_, fun p hp => ?_, ?_, fun p hp => ?_, fun b x h1 h3 => ?_⟩
  · rcases key p hp with rfl | ⟨h1, h2⟩
    · rw [ef]; exact va_up_self _ _ _
    · exact upk (h.1 p h1) ef h2
  · rcases key p hp with rfl | ⟨h1, h2⟩
    · exact h.2.1 (a, e) ha
    · exact h.2.1 p h1
  · rw [List.pairwise_iff_getElem]
    intro j m hj hm hjm
    have e1 : ∀ (t : Nat) (ht : t < (L.set i (a, e2)).length), ((L.set i (a, e2))[t]).1 = (L[t]'(by rw [List.length_set] at ht; exact ht)).1 := by
      intro t ht
      rw [List.getElem_set]
      split
      · rename_i hit
        subst hit
        rw [ei]
      · rfl
    rw [e1 j hj, e1 m hm]
    exact hL j m _ _ hjm
  · rcases key p hp with rfl | ⟨h1, h2⟩
    · exact h.2.2.2.1 (a, e) ha
    · exact h.2.2.2.1 p h1
  · refine upk (h.2.2.2.2 b x h1 h3) ef (fun hb => ?_)
    rw [hb, h.2.2.2.1 (a, e) ha] at h3
    cases h3
theorem inL.sorted {q : Nat} {f0 f : mF} {L : List (Nat × va_E)} (h : inL q f0 L f) : (L.map (fun p => p.1) ++ [q]).Pairwise (fun x y => y < x) := by
  refine List.pairwise_append.mpr ⟨List.pairwise_map.mpr h.2.2.1, List.pairwise_singleton _ _, fun x hx y hy => ?_⟩
  obtain ⟨p, hp, rfl⟩ := List.mem_map.mp hx
  rcases List.mem_singleton.mp hy with rfl
  exact h.2.1 p hp
theorem getD_inj {al : List Nat} (h : al.Pairwise (fun x y => y < x)) {i j : Nat} (hi : i < al.length) (hj : j < al.length) (e : al.getD i 0 = al.getD j 0) : i = j := by
  rw [List.pairwise_iff_getElem] at h
  rw [List.getD_eq_getElem?_getD, List.getD_eq_getElem?_getD, List.getElem?_eq_getElem hi, List.getElem?_eq_getElem hj] at e
  have e : al[i] = al[j] := e
  rcases Nat.lt_trichotomy i j with q | q | q
  · have := h i j hi hj q; omega
  · exact q
  · have := h j i hj hi q; omega
theorem getD_map {L : List (Nat × va_E)} {q : Nat} {f0 f : mF} (h : inL q f0 L f) : ∀ i, i < L.length + 1 → i ≠ L.length → f0 ((L.map (fun p => p.1) ++ [q]).getD i 0) = none := by
  intro i hi hne
  have hl : i < L.length := by omega
  rw [List.getD_eq_getElem?_getD, List.getElem?_append_left (by rw [List.length_map]; exact hl), List.getElem?_map, List.getElem?_eq_getElem hl]
  exact h.2.2.2.1 _ (List.getElem_mem hl)
