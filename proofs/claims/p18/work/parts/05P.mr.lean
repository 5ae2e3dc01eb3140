/-! a new object -/
def fstN (t j : Nat) : Int64 := if srt t j = 2 then -3 else 0
def fstB (t : Nat) : tB := (fun j => if srt t j = 2 ∨ srt t j = 3 then -3 else 0, fun _ => 0)
def dnF (n h f x : Nat) : Prop := x % 192 / 8 = n ∧ (x / 192 < h ∨ (x / 192 = h ∧ x % 8 < f))
def isF {α : Type} (n h f : Nat) (F : Nat → α) (g g0 : Nat → α) : Prop := ∀ x, (dnF n h f x → g x = F (x % 8)) ∧ (¬ dnF n h f x → g x = g0 x)
theorem isF_0 {α : Type} {n : Nat} {F g : Nat → α} : isF n 0 0 F g g := fun x => ⟨fun h => by unfold dnF at h; omega, fun _ => rfl⟩
theorem isF_up {α : Type} {n h : Nat} {F g g0 : Nat → α} (hi : isF n h 8 F g g0) : isF n (h + 1) 0 F g g0 := fun x => ⟨fun q => (hi x).1 (by unfold dnF at q ⊢; omega), fun q => (hi x).2 (by unfold dnF at q ⊢; omega)⟩
theorem isF_st {α : Type} {n h f : Nat} {F g g0 g2 : Nat → α} (hf : f < 8) (hn : n < 24) (hi : isF n h f F g g0) (h1 : g2 (192 * h + 8 * n + f) = F f) (h2 : ∀ x, x ≠ 192 * h + 8 * n + f → g2 x = g x) : isF n h (f + 1) F g2 g0 := fun x => by
  by_cases e : x = 192 * h + 8 * n + f
  · subst e
    refine ⟨fun _ => ?_, fun q => absurd ?_ q⟩
    · rw [h1, show (192 * h + 8 * n + f) % 8 = f by omega]
    · unfold dnF; omega
  · rw [h2 x e]
    exact ⟨fun q => (hi x).1 (by unfold dnF at q ⊢; omega), fun q => (hi x).2 (by unfold dnF at q ⊢; omega)⟩
theorem okBd_up {n t : Nat} {b : tB} (h : okBd n t b) : okBd (n + 1) t b := fun j hj => ⟨(h j hj).1, fun q => by have := (h j hj).2.1 q; omega, (h j hj).2.2⟩
theorem okBd_f {n t : Nat} : okBd n t (fstB t) := fun j hj => by
  refine ⟨fun q => ?_, fun q => ?_, fun q => ⟨?_, fun _ _ _ => rfl⟩⟩
  · show (if srt t j = 2 ∨ srt t j = 3 then (-3 : Int64) else 0) = 0
    rw [if_neg (by omega)]
  · show (if srt t j = 2 ∨ srt t j = 3 then (-3 : Int64) else 0).toInt = -3 ∨ _
    rw [if_pos (by omega)]; exact Or.inl (by decide)
  · show (if srt t j = 2 ∨ srt t j = 3 then (-3 : Int64) else 0).toInt = -3 ∨ _
    rw [if_pos (by omega)]; exact Or.inl (by decide)
theorem okHa_up {n : Nat} {x : Int32} (h : okHa n x) : okHa (n + 1) x := by unfold okHa at *; omega
section MRo
variable {n : Nat} {T z : Nat → Nat} {A : Nat → tA} {hg : Nat} {ver : Nat → Nat → tB} {cq : Nat → Bool} {tms : Nat → Int32} {wl : List Nat} {s : tS} {I : Nat → Nat → Int32} {J : Nat → Nat → Int64}
theorem arA_new {nu nu2 : Nat → Int64} {sz sz2 it : Nat → Int32} {a t : Nat} {b : Nat → tB} (hn : n < 24) (ha : a ≤ 41) (h : arA n T nu sz it a b) (hnu : isF n 42 0 (fstN t) nu2 nu) (hsz : isF n 42 0 (fun _ => -3) sz2 sz) : arA (n + 1) (va_up T n t) nu2 sz2 it a (va_up b n (fstB t)) := by
  have e1 : ∀ o j, o < 24 → j < 8 → o ≠ n → nu2 (192 * a + 8 * o + j) = nu (192 * a + 8 * o + j) ∧ sz2 (192 * a + 8 * o + j) = sz (192 * a + 8 * o + j) := fun o j ho hj hne => ⟨(hnu _).2 (by unfold dnF; omega), (hsz _).2 (by unfold dnF; omega)⟩
  refine ⟨fun o ho j hj => ?_, fun o ho ho2 j hj => ?_⟩
  · by_cases e : o = n
    · subst e
      rw [va_up_self, va_up_self, (hnu _).1 (by unfold dnF; omega), (hsz _).1 (by unfold dnF; omega), show (192 * a + 8 * o + j) % 8 = j by omega]
      refine ⟨?_, ?_, fun hs i hi => (h.2 o (Nat.le_refl _) hn j hj).2.2 i hi⟩
      · show fstN t j = nuOf t j (if srt t j = 2 ∨ srt t j = 3 then -3 else 0)
        unfold fstN nuOf
        by_cases h3 : srt t j = 3
        · rw [if_pos h3, if_neg (by omega)]
        · rw [if_neg h3]
          by_cases h2 : srt t j = 2
          · rw [if_pos h2, if_pos (Or.inl h2)]
          · rw [if_neg h2, if_neg (by omega)]
      · show (-3 : Int32) = szOf t j (if srt t j = 2 ∨ srt t j = 3 then -3 else 0)
        unfold szOf
        split
        · rename_i h3; rw [if_pos (Or.inr h3)]; decide
        · rfl
    · rw [va_up_ne _ _ e, va_up_ne _ _ e, (e1 o j (by omega) hj e).1, (e1 o j (by omega) hj e).2]
      exact h.1 o (by omega) j hj
  · rw [(e1 o j ho2 hj (by omega)).1, (e1 o j ho2 hj (by omega)).2]
    exact h.2 o (by omega) ho2 j hj
theorem MR.obj (h : MR n T z A hg ver cq tms wl s I J) {t : Nat} {g1 sz2 : Nat → Int32} {nu2 : Nat → Int64} (hn : n < 24) (ht : t < 3) (h1 : g1 = upd (I 1) n (nI t)) (hnu : isF n 42 0 (fstN t) nu2 (J 3)) (hsz : isF n 42 0 (fun _ => -3) sz2 (I 4)) : ∃ s2 : tS, ldS s2 = ldS s ∧ trS s2 = trS s ∧ gfS s2 = gfS s ∧ MR (n + 1) (va_up T n t) z A hg (fun a => va_up (ver a) n (fstB t)) cq tms wl s2 (va_up (va_up I 1 g1) 4 sz2) (va_up J 3 nu2) := by
  obtain ⟨r1, r2, r3, r4, r5, r6, r7, r8, r9, r10, r11, r12, r13, r14⟩ := h
  have hbd : ∀ (b : Nat → tB), (∀ o, o < n → okBd n (T o) (b o)) → ∀ o, o < n + 1 → okBd (n + 1) (va_up T n t o) (va_up b n (fstB t) o) := fun b hb o ho => by
    by_cases e : o = n
    · subst e; rw [va_up_self, va_up_self]; exact okBd_f
    · rw [va_up_ne _ _ e, va_up_ne _ _ e]; exact okBd_up (hb o (by omega))
  obtain ⟨ha2, h2a, h2b⟩ : ∃ ha2 : Nat → Int32, (∀ x, x < 4 → okHa (n + 1) (ha2 x)) ∧ ∀ x, x < 4 → I 26 x = ha2 x := by
    rcases r12 with q | ⟨q0, q⟩
    · exact ⟨haS s, fun x hx => okHa_up (r4.2.1 x hx), q⟩
    · refine ⟨fun _ => 0, fun x hx => Or.inr ⟨show 0 ≤ (0 : Int32).toInt from by decide, ?_⟩, q⟩
      have z0 : (0 : Int32).toInt = 0 := by decide
      show (0 : Int32).toInt < ((n + 1 : Nat) : Int)
      omega
  refine ⟨(va_up (bdS s) n (fstB t), ldS s, ha2, vaS s, trS s, gfS s), rfl, rfl, rfl, ?_⟩
  refine ⟨⟨by omega, fun o => ?_, r1.2.2⟩, ⟨fun o ho => ?_, r2.2⟩, ⟨r3.1, fun a ha => hbd _ (r3.2 a ha)⟩, ⟨hbd _ r4.1, h2a, r4.2.2.1, fun o ho => by have := r4.2.2.2 o ho; omega⟩, fun a ha => arA_new hn (by have := r3.1; omega) (r5 a ha) hnu hsz, arA_new hn (by omega) r6 hnu hsz, r7, r8, r9, r10, r11, Or.inl h2b, r13, fun o ho => by have := r14 o ho; omega⟩
  · by_cases e : o = n
    · rw [e, va_up_self]; exact ht
    · rw [va_up_ne _ _ e]; exact r1.2.1 o
  · show g1 o = nI (va_up T n t o)
    rw [h1]
    unfold upd va_up
    by_cases e : o = n
    · rw [if_pos e, if_pos e]
    · rw [if_neg e, if_neg e]; exact r2.1 o (by omega)
/-- an act more, no acts any more -/
theorem mrAct (h : MR n T z A hg ver cq tms wl s I J) {b : Nat} {t : tA} (hb : b < 6) (hz : z b < 32) (ht : okA t) : MR n T (va_up z b (z b + 1)) (va_up A (32 * b + z b) t) hg ver cq tms wl s (va_up (va_up (va_up (va_up (va_up (va_up I 10 (upd (I 10) (32 * b + z b) t.1)) 11 (upd (I 11) (32 * b + z b) t.2.1)) 13 (upd (I 13) (32 * b + z b) t.2.2.2.1)) 14 (upd (I 14) (32 * b + z b) t.2.2.2.2.1)) 15 (upd (I 15) (32 * b + z b) t.2.2.2.2.2)) 9 (upd (I 9) b (nI (z b + 1)))) (va_up J 12 (vp_updL (J 12) (32 * b + z b) t.2.2.1)) := by
  obtain ⟨r1, r2, r3, r4, r5, r6, r7, r8, r9, r10, r11, r12, r13, r14⟩ := h
  refine ⟨⟨r1.1, r1.2.1, fun q => ?_, fun q hq p hp => ?_⟩, ⟨r2.1, fun q hq => ?_, fun k hk => ?_⟩, r3, r4, r5, r6, r7, r8, r9, r10, r11, r12, r13, r14⟩
  · by_cases e : q = b
    · subst e; rw [va_up_self]; omega
    · rw [va_up_ne _ _ e]; exact r1.2.2.1 q
  · by_cases e : q = b
    · subst e
      rw [va_up_self] at hp
      by_cases e2 : p = z q
      · subst e2; rw [va_up_self]; exact ht
      · rw [va_up_ne _ _ (by omega)]; exact r1.2.2.2 q hq p (by omega)
    · rw [va_up_ne _ _ e] at hp
      have := r1.2.2.1 q
      rw [va_up_ne _ _ (by omega)]; exact r1.2.2.2 q hq p hp
  · show upd (I 9) b (nI (z b + 1)) q = nI (va_up z b (z b + 1) q)
    unfold upd va_up
    split
    · rfl
    · exact r2.2.1 q hq
  · show upd (I 10) (32 * b + z b) t.1 k = (va_up A (32 * b + z b) t k).1 ∧ upd (I 11) (32 * b + z b) t.2.1 k = (va_up A (32 * b + z b) t k).2.1 ∧ vp_updL (J 12) (32 * b + z b) t.2.2.1 k = (va_up A (32 * b + z b) t k).2.2.1 ∧ upd (I 13) (32 * b + z b) t.2.2.2.1 k = (va_up A (32 * b + z b) t k).2.2.2.1 ∧ upd (I 14) (32 * b + z b) t.2.2.2.2.1 k = (va_up A (32 * b + z b) t k).2.2.2.2.1 ∧ upd (I 15) (32 * b + z b) t.2.2.2.2.2 k = (va_up A (32 * b + z b) t k).2.2.2.2.2
    by_cases e : k = 32 * b + z b
    · subst e
      rw [va_up_self]
      unfold upd vp_updL
      exact ⟨if_pos rfl, if_pos rfl, if_pos rfl, if_pos rfl, if_pos rfl, if_pos rfl⟩
    · rw [va_up_ne _ _ e]
      unfold upd vp_updL
      rw [if_neg e, if_neg e, if_neg e, if_neg e, if_neg e, if_neg e]
      refine r2.2.2 k ⟨hk.1, ?_⟩
      have h2 := hk.2
      by_cases e2 : k / 32 = b
      · rw [e2, va_up_self] at h2
        rw [e2]
        omega
      · rw [va_up_ne _ _ e2] at h2; exact h2
theorem MR.clr (h : MR n T z A hg ver cq tms wl s I J) {b : Nat} (hb : b < 6) : MR n T (va_up z b 0) A hg ver cq tms wl s (va_up I 9 (upd (I 9) b 0)) J := by
  obtain ⟨r1, r2, r3, r4, r5, r6, r7, r8, r9, r10, r11, r12, r13, r14⟩ := h
  have hz : ∀ q, va_up z b 0 q ≤ z q := fun q => by
    by_cases e : q = b
    · rw [e, va_up_self]; omega
    · rw [va_up_ne _ _ e]; exact Nat.le_refl _
  refine ⟨⟨r1.1, r1.2.1, fun q => Nat.le_trans (hz q) (r1.2.2.1 q), fun q hq p hp => r1.2.2.2 q hq p (Nat.lt_of_lt_of_le hp (hz q))⟩, ⟨r2.1, fun q hq => ?_, fun k hk => r2.2.2 k ⟨hk.1, Nat.lt_of_lt_of_le hk.2 (hz _)⟩⟩, r3, r4, r5, r6, r7, r8, r9, r10, r11, r12, r13, r14⟩
  show upd (I 9) b 0 q = nI (va_up z b 0 q)
  unfold upd va_up
  split
  · rfl
  · exact r2.2.1 q hq
theorem MR.hint (h : MR n T z A hg ver cq tms wl s I J) {o : Nat} (ho : o < n) : MR n T z A hg ver (va_up cq o true) tms wl s (va_up I 6 (upd (I 6) o 1)) J := by
  obtain ⟨r1, r2, r3, r4, r5, r6, r7, r8, r9, r10, r11, r12, r13, r14⟩ := h
  refine ⟨r1, r2, r3, r4, r5, r6, fun q hq => ?_, r8, r9, r10, r11, r12, r13, fun q hq => ?_⟩
  · show upd (I 6) o 1 q = b2i (va_up cq o true q)
    unfold upd va_up
    split
    · rfl
    · exact r7 q hq
  · by_cases e : q = o
    · rw [e]; exact ho
    · rw [va_up_ne _ _ e] at hq; exact r14 q hq
end MRo
