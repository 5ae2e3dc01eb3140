/-! both sides at once -/
def JI (G : mG) (k h : Nat → Nat) (own : tR) (f : mF) : Prop := ∃ (n : Nat) (T z : Nat → Nat) (A : Nat → tA) (hg : Nat) (ver : Nat → Nat → tB) (cq : Nat → Bool) (fe : Int32) (tms : Nat → Int32) (ca : Int32) (wl : List Nat) (wh : Int32) (ac th : Nat) (xc xm : Int32) (s : tS), (∃ D, CM G k own n z D f ∧ GC n T z A hg ver cq fe tms ca wl wh ac th xc (ldS s) (trS s) (gfS s) D) ∧ FM G h n T z A hg ver cq fe tms ca wl wh ac th xm s f
section JIs
variable {G : mG} {k h : Nat → Nat} {own own2 : tR} {f f2 f3 : mF} {n : Nat} {T z : Nat → Nat} {A : Nat → tA} {hg : Nat} {ver : Nat → Nat → tB} {cq : Nat → Bool} {fe : Int32} {tms : Nat → Int32} {ca : Int32} {wl : List Nat} {wh : Int32} {ac th : Nat} {xc xm : Int32} {s : tS} {D : tD}
theorem JI.mk (hC : CM G k own n z D f) (hG : GC n T z A hg ver cq fe tms ca wl wh ac th xc (ldS s) (trS s) (gfS s) D) (hF : FM G h n T z A hg ver cq fe tms ca wl wh ac th xm s f) : JI G k h own f := ⟨_, _, _, _, _, _, _, _, _, _, _, _, _, _, _, _, _, ⟨_, hC, hG⟩, hF⟩
theorem JI.mk2 (hC : CM G k own n z D f) (hG : GC n T z A hg ver cq fe tms ca wl wh ac th xc (ldS s) (trS s) (gfS s) D) {s2 : tS} (l1 : ldS s2 = ldS s) (l2 : trS s2 = trS s) (l3 : gfS s2 = gfS s) (hF : FM G h n T z A hg ver cq fe tms ca wl wh ac th xm s2 f) : JI G k h own f := by
  rw [← l1, ← l2, ← l3] at hG
  exact JI.mk hC hG hF
theorem rM_c : ∀ k, k < 30 → rM k = true → k = 0 ∨ rI k = true ∨ rJ k = true := by decide +kernel
theorem FM.keep (hF : FM G h n T z A hg ver cq fe tms ca wl wh ac th xm s f) (hjk : ∀ j, j < 30 → rM j = false → h j = h 0) (hro : ∀ j, j < 30 → (own (h j)).1 = 0) (hfr : frD own f own2 f2) : FM G h n T z A hg ver cq fe tms ca wl wh ac th xm s f2 ∧ ∀ j, j < 30 → (own2 (h j)).1 = 0 := by
  obtain ⟨I, J, ⟨m0, mI, mJ, mi⟩, hR, q1, q2⟩ := hF
  have key : ∀ j, j < 30 → ∀ e, f (h j) = some e → f2 (h j) = some e := fun j hj e he => (hfr _ _ he).2.2 (hro j hj)
  have k2 : ∀ j, j < 30 → ∀ e, f (h j) = some e → (own2 (h j)).1 = 0 := fun j hj e he => by rw [(hfr _ _ he).2.1]; exact hro j hj
  refine ⟨⟨I, J, ⟨key 0 (by omega) _ m0, fun k hk hr => key k hk _ (mI k hk hr), fun k hk hr => key k hk _ (mJ k hk hr), mi⟩, hR, q1, q2⟩, fun j hj => ?_⟩
  cases hr : rM j with
  | false => rw [hjk j hj hr]; exact k2 0 (by omega) _ m0
  | true =>
    rcases rM_c j hj hr with e | e | e
    · rw [e]; exact k2 0 (by omega) _ m0
    · exact k2 j hj _ (mI j hj e)
    · exact k2 j hj _ (mJ j hj e)
theorem CM.keep (hM : CM G k own n z D f) (hro : ∀ j, j < 30 → (own (h j)).1 = 0) (hfr : frM h f f2) : CM G k own n z D f2 := hM.mono (fun a e he h0 => ⟨by rw [hfr a (fun q hq e2 => h0 (by rw [e2]; exact hro q hq))]; exact he, rfl⟩)
theorem FM.c0 (hF : FM G h n T z A hg ver cq fe tms ca wl wh ac th xm s f) : ∃ fs, f (h 0) = some (.inr (6, fs)) := by
  obtain ⟨I, J, ⟨m0, -⟩, -⟩ := hF
  exact ⟨_, m0⟩
end JIs
theorem ieq {a b : Int32} {x : Int} (h1 : a.toInt = x) (h2 : b.toInt = x) : a = b := Int32.toInt_inj.mp (h1.trans h2.symm)
theorem join_object {G : mG} {k h : Nat → Nat} {own : tR} {f2 f3 : mF} {n : Nat} {T z : Nat → Nat} {A : Nat → tA} {hg : Nat} {ver : Nat → Nat → tB} {cq : Nat → Bool} {fe : Int32} {tms : Nat → Int32} {ca : Int32} {wl : List Nat} {wh : Int32} {ac th : Nat} {xc xm : Int32} {s : tS} {r1 r2 : Int32} {ty : Int32} (h1 : (((ty.toInt < 0 ∨ 3 ≤ ty.toInt) ∧ r1.toInt = -1 ∧ (∃ D2, CM G k own n z D2 f2 ∧ GC n T z A hg ver cq fe tms ca wl wh ac th xc (ldS s) (trS s) (gfS s) D2)) ∨ (0 ≤ ty.toInt ∧ ty.toInt < 3 ∧ n = 24 ∧ r1.toInt = -2 ∧ (∃ D2, CM G k own n z D2 f2 ∧ GC n T z A hg ver cq fe tms ca wl wh ac th xc (ldS s) (trS s) (gfS s) D2)) ∨ (0 ≤ ty.toInt ∧ ty.toInt < 3 ∧ n < 24 ∧ r1.toInt = n ∧ (∃ D2, CM G k own (n + 1) z D2 f2 ∧ GC (n + 1) (va_up T n ty.toNatClampNeg) z A hg (fun a_ => va_up (ver a_) n (fstB ty.toNatClampNeg)) cq fe tms ca wl wh ac th xc (ldS s) (trS s) (gfS s) D2)))) (h2 : (((ty.toInt < 0 ∨ 3 ≤ ty.toInt) ∧ r2.toInt = -1 ∧ FM G h n T z A hg ver cq fe tms ca wl wh ac th xm s f3) ∨ (0 ≤ ty.toInt ∧ ty.toInt < 3 ∧ n = 24 ∧ r2.toInt = -2 ∧ FM G h n T z A hg ver cq fe tms ca wl wh ac th xm s f3) ∨ (0 ≤ ty.toInt ∧ ty.toInt < 3 ∧ n < 24 ∧ r2.toInt = n ∧ (∃ s2 : tS, ldS s2 = ldS s ∧ trS s2 = trS s ∧ gfS s2 = gfS s ∧ FM G h (n + 1) (va_up T n ty.toNatClampNeg) z A hg (fun a_ => va_up (ver a_) n (fstB ty.toNatClampNeg)) cq fe tms ca wl wh ac th xm s2 f3)))) (kc : ∀ (n : Nat) (z : Nat → Nat) (D : tD), CM G k own n z D f2 → CM G k own n z D f3) : r1 = r2 ∧ JI G k h own f3 := by
  rcases h1 with ⟨c1, e1, D2, m1, g1⟩ | ⟨a1, b1, c1, e1, D2, m1, g1⟩ | ⟨a1, b1, c1, e1, D2, m1, g1⟩ <;> rcases h2 with ⟨c2, e2, F2⟩ | ⟨a2, b2, c2, e2, F2⟩ | ⟨a2, b2, c2, e2, s2, l1, l2, l3, F2⟩
  · exact ⟨ieq e1 e2, JI.mk (kc _ _ _ m1) g1 F2⟩
  · omega
  · omega
  · omega
  · exact ⟨ieq e1 e2, JI.mk (kc _ _ _ m1) g1 F2⟩
  · omega
  · omega
  · omega
  · exact ⟨ieq e1 e2, JI.mk2 (kc _ _ _ m1) g1 l1 l2 l3 F2⟩
set_option maxHeartbeats 4000000 in
theorem join_number {G : mG} {k h : Nat → Nat} {own : tR} {f2 f3 : mF} {n : Nat} {T z : Nat → Nat} {A : Nat → tA} {hg : Nat} {ver : Nat → Nat → tB} {cq : Nat → Bool} {fe : Int32} {tms : Nat → Int32} {ca : Int32} {wl : List Nat} {wh : Int32} {ac th : Nat} {xc xm : Int32} {s : tS} {r1 r2 : Int32} {o j : Int32} {v : Int64} (h1 : ((¬ (0 ≤ o.toInt ∧ o.toInt < n ∧ 0 ≤ j.toInt ∧ j.toInt < 8 ∧ srt (T o.toNatClampNeg) j.toNatClampNeg = 1) ∧ r1.toInt = -1 ∧ (∃ D2, CM G k own n z D2 f2 ∧ GC n T z A hg ver cq fe tms ca wl wh ac th xc (ldS s) (trS s) (gfS s) D2)) ∨ ((0 ≤ o.toInt ∧ o.toInt < n ∧ 0 ≤ j.toInt ∧ j.toInt < 8 ∧ srt (T o.toNatClampNeg) j.toNatClampNeg = 1) ∧ (((dif n T (ver hg) (va_up (ver hg) o.toNatClampNeg (setC (ver hg o.toNatClampNeg) j.toNatClampNeg v)) (8 * o.toNatClampNeg + j.toNatClampNeg)) = false ∧ r1.toInt = hg ∧ (∃ D2, CM G k own n z D2 f2 ∧ GC n T z A hg ver cq fe tms ca wl wh ac th xc (ldS s) (trS s) (gfS s) D2)) ∨ ((dif n T (ver hg) (va_up (ver hg) o.toNatClampNeg (setC (ver hg o.toNatClampNeg) j.toNatClampNeg v)) (8 * o.toNatClampNeg + j.toNatClampNeg)) = true ∧ hg = 40 ∧ r1.toInt = -2 ∧ (∃ D2, CM G k own n z D2 f2 ∧ GC n T z A hg ver cq fe tms ca wl wh ac th xc (ldS s) (trS s) (gfS s) D2)) ∨ ((dif n T (ver hg) (va_up (ver hg) o.toNatClampNeg (setC (ver hg o.toNatClampNeg) j.toNatClampNeg v)) (8 * o.toNatClampNeg + j.toNatClampNeg)) = true ∧ hg ≤ 39 ∧ r1.toInt = (hg : Int) + 1 ∧ (∃ D2, CM G k own n z D2 f2 ∧ GC n T z A (hg + 1) (va_up ver (hg + 1) (va_up (ver hg) o.toNatClampNeg (setC (ver hg o.toNatClampNeg) j.toNatClampNeg v))) (fun _ => false) fe tms ca wl wh ac th xc (ldS s) (trS s) (gfS s) D2)))))) (h2 : ((¬ (0 ≤ o.toInt ∧ o.toInt < n ∧ 0 ≤ j.toInt ∧ j.toInt < 8 ∧ srt (T o.toNatClampNeg) j.toNatClampNeg = 1) ∧ r2.toInt = -1 ∧ (∃ s2 : tS, ldS s2 = ldS s ∧ trS s2 = trS s ∧ gfS s2 = gfS s ∧ FM G h n T z A hg ver cq fe tms ca wl wh ac th xm s2 f3)) ∨ ((0 ≤ o.toInt ∧ o.toInt < n ∧ 0 ≤ j.toInt ∧ j.toInt < 8 ∧ srt (T o.toNatClampNeg) j.toNatClampNeg = 1) ∧ (dif n T (ver hg) (va_up (ver hg) o.toNatClampNeg (setC (ver hg o.toNatClampNeg) j.toNatClampNeg v)) (8 * o.toNatClampNeg + j.toNatClampNeg)) = false ∧ r2.toInt = hg ∧ (∃ s2 : tS, ldS s2 = ldS s ∧ trS s2 = trS s ∧ gfS s2 = gfS s ∧ FM G h n T z A hg ver cq fe tms ca wl wh ac th xm s2 f3)) ∨ ((0 ≤ o.toInt ∧ o.toInt < n ∧ 0 ≤ j.toInt ∧ j.toInt < 8 ∧ srt (T o.toNatClampNeg) j.toNatClampNeg = 1) ∧ (dif n T (ver hg) (va_up (ver hg) o.toNatClampNeg (setC (ver hg o.toNatClampNeg) j.toNatClampNeg v)) (8 * o.toNatClampNeg + j.toNatClampNeg)) = true ∧ hg = 40 ∧ r2.toInt = -2 ∧ (∃ s2 : tS, ldS s2 = ldS s ∧ trS s2 = trS s ∧ gfS s2 = gfS s ∧ FM G h n T z A hg ver cq fe tms ca wl wh ac th xm s2 f3)) ∨ ((0 ≤ o.toInt ∧ o.toInt < n ∧ 0 ≤ j.toInt ∧ j.toInt < 8 ∧ srt (T o.toNatClampNeg) j.toNatClampNeg = 1) ∧ (dif n T (ver hg) (va_up (ver hg) o.toNatClampNeg (setC (ver hg o.toNatClampNeg) j.toNatClampNeg v)) (8 * o.toNatClampNeg + j.toNatClampNeg)) = true ∧ hg ≤ 39 ∧ r2.toInt = hg + 1 ∧ (∃ s2 : tS, ldS s2 = ldS s ∧ trS s2 = trS s ∧ gfS s2 = gfS s ∧ FM G h n T z A (hg + 1) (va_up ver (hg + 1) (va_up (ver hg) o.toNatClampNeg (setC (ver hg o.toNatClampNeg) j.toNatClampNeg v))) (fun _ => false) fe tms ca wl wh ac th xm s2 f3)))) (kc : ∀ (n : Nat) (z : Nat → Nat) (D : tD), CM G k own n z D f2 → CM G k own n z D f3) : r1 = r2 ∧ JI G k h own f3 := by
  rcases h1 with ⟨c1, e1, D2, m1, g1⟩ | ⟨c1, ⟨d1, e1, D2, m1, g1⟩ | ⟨d1, w1, e1, D2, m1, g1⟩ | ⟨d1, w1, e1, D2, m1, g1⟩⟩ <;> rcases h2 with ⟨c2, e2, s2, l1, l2, l3, F2⟩ | ⟨c2, d2, e2, s2, l1, l2, l3, F2⟩ | ⟨c2, d2, w2, e2, s2, l1, l2, l3, F2⟩ | ⟨c2, d2, w2, e2, s2, l1, l2, l3, F2⟩
  · exact ⟨ieq e1 e2, JI.mk2 (kc _ _ _ m1) g1 l1 l2 l3 F2⟩
  · exact absurd c2 c1
  · exact absurd c2 c1
  · exact absurd c2 c1
  · exact absurd c1 c2
  · exact ⟨ieq e1 e2, JI.mk2 (kc _ _ _ m1) g1 l1 l2 l3 F2⟩
  · rw [d1] at d2; cases d2
  · rw [d1] at d2; cases d2
  · exact absurd c1 c2
  · rw [d1] at d2; cases d2
  · exact ⟨ieq e1 e2, JI.mk2 (kc _ _ _ m1) g1 l1 l2 l3 F2⟩
  · omega
  · exact absurd c1 c2
  · rw [d1] at d2; cases d2
  · omega
  · exact ⟨ieq e1 e2, JI.mk2 (kc _ _ _ m1) g1 l1 l2 l3 F2⟩
set_option maxHeartbeats 4000000 in
theorem join_link {G : mG} {k h : Nat → Nat} {own : tR} {f2 f3 : mF} {n : Nat} {T z : Nat → Nat} {A : Nat → tA} {hg : Nat} {ver : Nat → Nat → tB} {cq : Nat → Bool} {fe : Int32} {tms : Nat → Int32} {ca : Int32} {wl : List Nat} {wh : Int32} {ac th : Nat} {xc xm : Int32} {s : tS} {r1 r2 : Int32} {o j p_ : Int32} (h1 : ((¬ ((0 ≤ o.toInt ∧ o.toInt < n ∧ 0 ≤ j.toInt ∧ j.toInt < 8 ∧ srt (T o.toNatClampNeg) j.toNatClampNeg = 2) ∧ (p_.toInt = -3 ∨ (0 ≤ p_.toInt ∧ p_.toInt < n))) ∧ r1.toInt = -1 ∧ (∃ D2, CM G k own n z D2 f2 ∧ GC n T z A hg ver cq fe tms ca wl wh ac th xc (ldS s) (trS s) (gfS s) D2)) ∨ (((0 ≤ o.toInt ∧ o.toInt < n ∧ 0 ≤ j.toInt ∧ j.toInt < 8 ∧ srt (T o.toNatClampNeg) j.toNatClampNeg = 2) ∧ (p_.toInt = -3 ∨ (0 ≤ p_.toInt ∧ p_.toInt < n))) ∧ (((dif n T (ver hg) (va_up (ver hg) o.toNatClampNeg (setC (ver hg o.toNatClampNeg) j.toNatClampNeg p_.toInt64)) (8 * o.toNatClampNeg + j.toNatClampNeg)) = false ∧ r1.toInt = hg ∧ (∃ D2, CM G k own n z D2 f2 ∧ GC n T z A hg ver cq fe tms ca wl wh ac th xc (ldS s) (trS s) (gfS s) D2)) ∨ ((dif n T (ver hg) (va_up (ver hg) o.toNatClampNeg (setC (ver hg o.toNatClampNeg) j.toNatClampNeg p_.toInt64)) (8 * o.toNatClampNeg + j.toNatClampNeg)) = true ∧ hg = 40 ∧ r1.toInt = -2 ∧ (∃ D2, CM G k own n z D2 f2 ∧ GC n T z A hg ver cq fe tms ca wl wh ac th xc (ldS s) (trS s) (gfS s) D2)) ∨ ((dif n T (ver hg) (va_up (ver hg) o.toNatClampNeg (setC (ver hg o.toNatClampNeg) j.toNatClampNeg p_.toInt64)) (8 * o.toNatClampNeg + j.toNatClampNeg)) = true ∧ hg ≤ 39 ∧ r1.toInt = (hg : Int) + 1 ∧ (∃ D2, CM G k own n z D2 f2 ∧ GC n T z A (hg + 1) (va_up ver (hg + 1) (va_up (ver hg) o.toNatClampNeg (setC (ver hg o.toNatClampNeg) j.toNatClampNeg p_.toInt64))) (fun _ => false) fe tms ca wl wh ac th xc (ldS s) (trS s) (gfS s) D2)))))) (h2 : ((¬ ((0 ≤ o.toInt ∧ o.toInt < n ∧ 0 ≤ j.toInt ∧ j.toInt < 8 ∧ srt (T o.toNatClampNeg) j.toNatClampNeg = 2) ∧ (p_.toInt = -3 ∨ (0 ≤ p_.toInt ∧ p_.toInt < n))) ∧ r2.toInt = -1 ∧ (∃ s2 : tS, ldS s2 = ldS s ∧ trS s2 = trS s ∧ gfS s2 = gfS s ∧ FM G h n T z A hg ver cq fe tms ca wl wh ac th xm s2 f3)) ∨ (((0 ≤ o.toInt ∧ o.toInt < n ∧ 0 ≤ j.toInt ∧ j.toInt < 8 ∧ srt (T o.toNatClampNeg) j.toNatClampNeg = 2) ∧ (p_.toInt = -3 ∨ (0 ≤ p_.toInt ∧ p_.toInt < n))) ∧ (dif n T (ver hg) (va_up (ver hg) o.toNatClampNeg (setC (ver hg o.toNatClampNeg) j.toNatClampNeg p_.toInt64)) (8 * o.toNatClampNeg + j.toNatClampNeg)) = false ∧ r2.toInt = hg ∧ (∃ s2 : tS, ldS s2 = ldS s ∧ trS s2 = trS s ∧ gfS s2 = gfS s ∧ FM G h n T z A hg ver cq fe tms ca wl wh ac th xm s2 f3)) ∨ (((0 ≤ o.toInt ∧ o.toInt < n ∧ 0 ≤ j.toInt ∧ j.toInt < 8 ∧ srt (T o.toNatClampNeg) j.toNatClampNeg = 2) ∧ (p_.toInt = -3 ∨ (0 ≤ p_.toInt ∧ p_.toInt < n))) ∧ (dif n T (ver hg) (va_up (ver hg) o.toNatClampNeg (setC (ver hg o.toNatClampNeg) j.toNatClampNeg p_.toInt64)) (8 * o.toNatClampNeg + j.toNatClampNeg)) = true ∧ hg = 40 ∧ r2.toInt = -2 ∧ (∃ s2 : tS, ldS s2 = ldS s ∧ trS s2 = trS s ∧ gfS s2 = gfS s ∧ FM G h n T z A hg ver cq fe tms ca wl wh ac th xm s2 f3)) ∨ (((0 ≤ o.toInt ∧ o.toInt < n ∧ 0 ≤ j.toInt ∧ j.toInt < 8 ∧ srt (T o.toNatClampNeg) j.toNatClampNeg = 2) ∧ (p_.toInt = -3 ∨ (0 ≤ p_.toInt ∧ p_.toInt < n))) ∧ (dif n T (ver hg) (va_up (ver hg) o.toNatClampNeg (setC (ver hg o.toNatClampNeg) j.toNatClampNeg p_.toInt64)) (8 * o.toNatClampNeg + j.toNatClampNeg)) = true ∧ hg ≤ 39 ∧ r2.toInt = hg + 1 ∧ (∃ s2 : tS, ldS s2 = ldS s ∧ trS s2 = trS s ∧ gfS s2 = gfS s ∧ FM G h n T z A (hg + 1) (va_up ver (hg + 1) (va_up (ver hg) o.toNatClampNeg (setC (ver hg o.toNatClampNeg) j.toNatClampNeg p_.toInt64))) (fun _ => false) fe tms ca wl wh ac th xm s2 f3)))) (kc : ∀ (n : Nat) (z : Nat → Nat) (D : tD), CM G k own n z D f2 → CM G k own n z D f3) : r1 = r2 ∧ JI G k h own f3 := by
  rcases h1 with ⟨c1, e1, D2, m1, g1⟩ | ⟨c1, ⟨d1, e1, D2, m1, g1⟩ | ⟨d1, w1, e1, D2, m1, g1⟩ | ⟨d1, w1, e1, D2, m1, g1⟩⟩ <;> rcases h2 with ⟨c2, e2, s2, l1, l2, l3, F2⟩ | ⟨c2, d2, e2, s2, l1, l2, l3, F2⟩ | ⟨c2, d2, w2, e2, s2, l1, l2, l3, F2⟩ | ⟨c2, d2, w2, e2, s2, l1, l2, l3, F2⟩
  · exact ⟨ieq e1 e2, JI.mk2 (kc _ _ _ m1) g1 l1 l2 l3 F2⟩
  · exact absurd c2 c1
  · exact absurd c2 c1
  · exact absurd c2 c1
  · exact absurd c1 c2
  · exact ⟨ieq e1 e2, JI.mk2 (kc _ _ _ m1) g1 l1 l2 l3 F2⟩
  · rw [d1] at d2; cases d2
  · rw [d1] at d2; cases d2
  · exact absurd c1 c2
  · rw [d1] at d2; cases d2
  · exact ⟨ieq e1 e2, JI.mk2 (kc _ _ _ m1) g1 l1 l2 l3 F2⟩
  · omega
  · exact absurd c1 c2
  · rw [d1] at d2; cases d2
  · omega
  · exact ⟨ieq e1 e2, JI.mk2 (kc _ _ _ m1) g1 l1 l2 l3 F2⟩
set_option maxHeartbeats 4000000 in
theorem join_row {G : mG} {k h : Nat → Nat} {own : tR} {f2 f3 : mF} {n : Nat} {T z : Nat → Nat} {A : Nat → tA} {hg : Nat} {ver : Nat → Nat → tB} {cq : Nat → Bool} {fe : Int32} {tms : Nat → Int32} {ca : Int32} {wl : List Nat} {wh : Int32} {ac th : Nat} {xc xm : Int32} {s : tS} {r1 r2 : Int32} {o j q_ : Int32} (h1 : ((¬ ((0 ≤ o.toInt ∧ o.toInt < n ∧ 0 ≤ j.toInt ∧ j.toInt < 8 ∧ srt (T o.toNatClampNeg) j.toNatClampNeg = 3) ∧ (q_.toInt = -3 ∨ (0 ≤ q_.toInt ∧ q_.toInt ≤ 8))) ∧ r1.toInt = -1 ∧ (∃ D2, CM G k own n z D2 f2 ∧ GC n T z A hg ver cq fe tms ca wl wh ac th xc (ldS s) (trS s) (gfS s) D2)) ∨ (((0 ≤ o.toInt ∧ o.toInt < n ∧ 0 ≤ j.toInt ∧ j.toInt < 8 ∧ srt (T o.toNatClampNeg) j.toNatClampNeg = 3) ∧ (q_.toInt = -3 ∨ (0 ≤ q_.toInt ∧ q_.toInt ≤ 8))) ∧ (((dif n T (ver hg) (va_up (ver hg) o.toNatClampNeg (renB (ver hg o.toNatClampNeg) j.toNatClampNeg q_.toInt64)) (8 * o.toNatClampNeg + j.toNatClampNeg)) = false ∧ r1.toInt = hg ∧ (∃ D2, CM G k own n z D2 f2 ∧ GC n T z A hg ver cq fe tms ca wl wh ac th xc (ldS s) (trS s) (gfS s) D2)) ∨ ((dif n T (ver hg) (va_up (ver hg) o.toNatClampNeg (renB (ver hg o.toNatClampNeg) j.toNatClampNeg q_.toInt64)) (8 * o.toNatClampNeg + j.toNatClampNeg)) = true ∧ hg = 40 ∧ r1.toInt = -2 ∧ (∃ D2, CM G k own n z D2 f2 ∧ GC n T z A hg ver cq fe tms ca wl wh ac th xc (ldS s) (trS s) (gfS s) D2)) ∨ ((dif n T (ver hg) (va_up (ver hg) o.toNatClampNeg (renB (ver hg o.toNatClampNeg) j.toNatClampNeg q_.toInt64)) (8 * o.toNatClampNeg + j.toNatClampNeg)) = true ∧ hg ≤ 39 ∧ r1.toInt = (hg : Int) + 1 ∧ (∃ D2, CM G k own n z D2 f2 ∧ GC n T z A (hg + 1) (va_up ver (hg + 1) (va_up (ver hg) o.toNatClampNeg (renB (ver hg o.toNatClampNeg) j.toNatClampNeg q_.toInt64))) (fun _ => false) fe tms ca wl wh ac th xc (ldS s) (trS s) (gfS s) D2)))))) (h2 : ((¬ ((0 ≤ o.toInt ∧ o.toInt < n ∧ 0 ≤ j.toInt ∧ j.toInt < 8 ∧ srt (T o.toNatClampNeg) j.toNatClampNeg = 3) ∧ (q_.toInt = -3 ∨ (0 ≤ q_.toInt ∧ q_.toInt ≤ 8))) ∧ r2.toInt = -1 ∧ (∃ s2 : tS, ldS s2 = ldS s ∧ trS s2 = trS s ∧ gfS s2 = gfS s ∧ FM G h n T z A hg ver cq fe tms ca wl wh ac th xm s2 f3)) ∨ (((0 ≤ o.toInt ∧ o.toInt < n ∧ 0 ≤ j.toInt ∧ j.toInt < 8 ∧ srt (T o.toNatClampNeg) j.toNatClampNeg = 3) ∧ (q_.toInt = -3 ∨ (0 ≤ q_.toInt ∧ q_.toInt ≤ 8))) ∧ (dif n T (ver hg) (va_up (ver hg) o.toNatClampNeg (renB (ver hg o.toNatClampNeg) j.toNatClampNeg q_.toInt64)) (8 * o.toNatClampNeg + j.toNatClampNeg)) = false ∧ r2.toInt = hg ∧ (∃ s2 : tS, ldS s2 = ldS s ∧ trS s2 = trS s ∧ gfS s2 = gfS s ∧ FM G h n T z A hg ver cq fe tms ca wl wh ac th xm s2 f3)) ∨ (((0 ≤ o.toInt ∧ o.toInt < n ∧ 0 ≤ j.toInt ∧ j.toInt < 8 ∧ srt (T o.toNatClampNeg) j.toNatClampNeg = 3) ∧ (q_.toInt = -3 ∨ (0 ≤ q_.toInt ∧ q_.toInt ≤ 8))) ∧ (dif n T (ver hg) (va_up (ver hg) o.toNatClampNeg (renB (ver hg o.toNatClampNeg) j.toNatClampNeg q_.toInt64)) (8 * o.toNatClampNeg + j.toNatClampNeg)) = true ∧ hg = 40 ∧ r2.toInt = -2 ∧ (∃ s2 : tS, ldS s2 = ldS s ∧ trS s2 = trS s ∧ gfS s2 = gfS s ∧ FM G h n T z A hg ver cq fe tms ca wl wh ac th xm s2 f3)) ∨ (((0 ≤ o.toInt ∧ o.toInt < n ∧ 0 ≤ j.toInt ∧ j.toInt < 8 ∧ srt (T o.toNatClampNeg) j.toNatClampNeg = 3) ∧ (q_.toInt = -3 ∨ (0 ≤ q_.toInt ∧ q_.toInt ≤ 8))) ∧ (dif n T (ver hg) (va_up (ver hg) o.toNatClampNeg (renB (ver hg o.toNatClampNeg) j.toNatClampNeg q_.toInt64)) (8 * o.toNatClampNeg + j.toNatClampNeg)) = true ∧ hg ≤ 39 ∧ r2.toInt = hg + 1 ∧ (∃ s2 : tS, ldS s2 = ldS s ∧ trS s2 = trS s ∧ gfS s2 = gfS s ∧ FM G h n T z A (hg + 1) (va_up ver (hg + 1) (va_up (ver hg) o.toNatClampNeg (renB (ver hg o.toNatClampNeg) j.toNatClampNeg q_.toInt64))) (fun _ => false) fe tms ca wl wh ac th xm s2 f3)))) (kc : ∀ (n : Nat) (z : Nat → Nat) (D : tD), CM G k own n z D f2 → CM G k own n z D f3) : r1 = r2 ∧ JI G k h own f3 := by
  rcases h1 with ⟨c1, e1, D2, m1, g1⟩ | ⟨c1, ⟨d1, e1, D2, m1, g1⟩ | ⟨d1, w1, e1, D2, m1, g1⟩ | ⟨d1, w1, e1, D2, m1, g1⟩⟩ <;> rcases h2 with ⟨c2, e2, s2, l1, l2, l3, F2⟩ | ⟨c2, d2, e2, s2, l1, l2, l3, F2⟩ | ⟨c2, d2, w2, e2, s2, l1, l2, l3, F2⟩ | ⟨c2, d2, w2, e2, s2, l1, l2, l3, F2⟩
  · exact ⟨ieq e1 e2, JI.mk2 (kc _ _ _ m1) g1 l1 l2 l3 F2⟩
  · exact absurd c2 c1
  · exact absurd c2 c1
  · exact absurd c2 c1
  · exact absurd c1 c2
  · exact ⟨ieq e1 e2, JI.mk2 (kc _ _ _ m1) g1 l1 l2 l3 F2⟩
  · rw [d1] at d2; cases d2
  · rw [d1] at d2; cases d2
  · exact absurd c1 c2
  · rw [d1] at d2; cases d2
  · exact ⟨ieq e1 e2, JI.mk2 (kc _ _ _ m1) g1 l1 l2 l3 F2⟩
  · omega
  · exact absurd c1 c2
  · rw [d1] at d2; cases d2
  · omega
  · exact ⟨ieq e1 e2, JI.mk2 (kc _ _ _ m1) g1 l1 l2 l3 F2⟩
theorem join_act {G : mG} {k h : Nat → Nat} {own : tR} {f2 f3 : mF} {n : Nat} {T z : Nat → Nat} {A : Nat → tA} {hg : Nat} {ver : Nat → Nat → tB} {cq : Nat → Bool} {fe : Int32} {tms : Nat → Int32} {ca : Int32} {wl : List Nat} {wh : Int32} {ac th : Nat} {xc xm : Int32} {s : tS} {r1 r2 : Int32} {b kd a : Int32} {bb : Int64} {c_ d_ e_ : Int32} (h1 : ((¬ (0 ≤ b.toInt ∧ b.toInt < 6 ∧ okA (kd, a, bb, c_, d_, e_)) ∧ r1.toInt = -1 ∧ (∃ D2, CM G k own n z D2 f2 ∧ GC n T z A hg ver cq fe tms ca wl wh ac th xc (ldS s) (trS s) (gfS s) D2)) ∨ (((0 ≤ b.toInt ∧ b.toInt < 6 ∧ okA (kd, a, bb, c_, d_, e_)) ∧ z b.toNatClampNeg = 32 ∧ r1.toInt = -2 ∧ (∃ D2, CM G k own n z D2 f2 ∧ GC n T z A hg ver cq fe tms ca wl wh ac th xc (ldS s) (trS s) (gfS s) D2)) ∨ ((0 ≤ b.toInt ∧ b.toInt < 6 ∧ okA (kd, a, bb, c_, d_, e_)) ∧ z b.toNatClampNeg < 32 ∧ r1.toInt = z b.toNatClampNeg ∧ (∃ D2, CM G k own n (va_up z b.toNatClampNeg (z b.toNatClampNeg + 1)) D2 f2 ∧ GC n T (va_up z b.toNatClampNeg (z b.toNatClampNeg + 1)) (va_up A (32 * b.toNatClampNeg + z b.toNatClampNeg) (kd, a, bb, c_, d_, e_)) hg ver cq fe tms ca wl wh ac th xc (ldS s) (trS s) (gfS s) D2))))) (h2 : ((¬ (0 ≤ b.toInt ∧ b.toInt < 6 ∧ okA (kd, a, bb, c_, d_, e_)) ∧ r2.toInt = -1 ∧ FM G h n T z A hg ver cq fe tms ca wl wh ac th xm s f3) ∨ ((0 ≤ b.toInt ∧ b.toInt < 6 ∧ okA (kd, a, bb, c_, d_, e_)) ∧ z b.toNatClampNeg = 32 ∧ r2.toInt = -2 ∧ FM G h n T z A hg ver cq fe tms ca wl wh ac th xm s f3) ∨ ((0 ≤ b.toInt ∧ b.toInt < 6 ∧ okA (kd, a, bb, c_, d_, e_)) ∧ z b.toNatClampNeg < 32 ∧ r2.toInt = z b.toNatClampNeg ∧ FM G h n T (va_up z b.toNatClampNeg (z b.toNatClampNeg + 1)) (va_up A (32 * b.toNatClampNeg + z b.toNatClampNeg) (kd, a, bb, c_, d_, e_)) hg ver cq fe tms ca wl wh ac th xm s f3))) (kc : ∀ (n : Nat) (z : Nat → Nat) (D : tD), CM G k own n z D f2 → CM G k own n z D f3) : r1 = r2 ∧ JI G k h own f3 := by
  rcases h1 with ⟨c1, e1, D2, m1, g1⟩ | ⟨c1, w1, e1, D2, m1, g1⟩ | ⟨c1, w1, e1, D2, m1, g1⟩ <;> rcases h2 with ⟨c2, e2, F2⟩ | ⟨c2, w2, e2, F2⟩ | ⟨c2, w2, e2, F2⟩
  · exact ⟨ieq e1 e2, JI.mk (kc _ _ _ m1) g1 F2⟩
  · exact absurd c2 c1
  · exact absurd c2 c1
  · exact absurd c1 c2
  · exact ⟨ieq e1 e2, JI.mk (kc _ _ _ m1) g1 F2⟩
  · omega
  · exact absurd c1 c2
  · omega
  · exact ⟨ieq e1 e2, JI.mk (kc _ _ _ m1) g1 F2⟩
theorem join_clear {G : mG} {k h : Nat → Nat} {own : tR} {f2 f3 : mF} {n : Nat} {T z : Nat → Nat} {A : Nat → tA} {hg : Nat} {ver : Nat → Nat → tB} {cq : Nat → Bool} {fe : Int32} {tms : Nat → Int32} {ca : Int32} {wl : List Nat} {wh : Int32} {ac th : Nat} {xc xm : Int32} {s : tS} {r1 r2 : Int32} {b : Int32} (h1 : (((b.toInt < 0 ∨ 6 ≤ b.toInt) ∧ r1.toInt = -1 ∧ (∃ D2, CM G k own n z D2 f2 ∧ GC n T z A hg ver cq fe tms ca wl wh ac th xc (ldS s) (trS s) (gfS s) D2)) ∨ (0 ≤ b.toInt ∧ b.toInt < 6 ∧ r1.toInt = z b.toNatClampNeg ∧ (∃ D2, CM G k own n (va_up z b.toNatClampNeg 0) D2 f2 ∧ GC n T (va_up z b.toNatClampNeg 0) A hg ver cq fe tms ca wl wh ac th xc (ldS s) (trS s) (gfS s) D2)))) (h2 : (((b.toInt < 0 ∨ 6 ≤ b.toInt) ∧ r2.toInt = -1 ∧ FM G h n T z A hg ver cq fe tms ca wl wh ac th xm s f3) ∨ (0 ≤ b.toInt ∧ b.toInt < 6 ∧ r2.toInt = z b.toNatClampNeg ∧ FM G h n T (va_up z b.toNatClampNeg 0) A hg ver cq fe tms ca wl wh ac th xm s f3))) (kc : ∀ (n : Nat) (z : Nat → Nat) (D : tD), CM G k own n z D f2 → CM G k own n z D f3) : r1 = r2 ∧ JI G k h own f3 := by
  rcases h1 with ⟨c1, e1, D2, m1, g1⟩ | ⟨a1, c1, e1, D2, m1, g1⟩ <;> rcases h2 with ⟨c2, e2, F2⟩ | ⟨a2, c2, e2, F2⟩
  · exact ⟨ieq e1 e2, JI.mk (kc _ _ _ m1) g1 F2⟩
  · omega
  · omega
  · exact ⟨ieq e1 e2, JI.mk (kc _ _ _ m1) g1 F2⟩
set_option maxHeartbeats 4000000 in
theorem join_call {G : mG} {k h : Nat → Nat} {own : tR} {f2 f3 : mF} {n : Nat} {T z : Nat → Nat} {A : Nat → tA} {hg : Nat} {ver : Nat → Nat → tB} {cq : Nat → Bool} {fe : Int32} {tms : Nat → Int32} {ca : Int32} {wl : List Nat} {wh : Int32} {ac th : Nat} {xc xm : Int32} {s : tS} {r1 r2 : Int32} {o b : Int32} {v : Int64} (h1 : ((¬ (0 ≤ o.toInt ∧ o.toInt < n ∧ 0 ≤ b.toInt ∧ b.toInt < 6) ∧ r1.toInt = -1 ∧ (∃ D2, CM G k own n z D2 f2 ∧ GC n T z A hg ver cq fe tms ca wl wh ac th xc (ldS s) (trS s) (gfS s) D2)) ∨ ((0 ≤ o.toInt ∧ o.toInt < n ∧ 0 ≤ b.toInt ∧ b.toInt < 6) ∧ hg = 40 ∧ r1.toInt = -2 ∧ (∃ D2, CM G k own n z D2 f2 ∧ GC n T z A hg ver cq fe tms ca wl wh ac th xc (ldS s) (trS s) (gfS s) D2)) ∨ ((0 ≤ o.toInt ∧ o.toInt < n ∧ 0 ≤ b.toInt ∧ b.toInt < 6) ∧ hg ≤ 39 ∧ (rnC T z A (ver hg) b.toNatClampNeg o v).1 ≠ 0 ∧ r1.toInt = (rnC T z A (ver hg) b.toNatClampNeg o v).1 ∧ (∃ D2, CM G k own n z D2 f2 ∧ GC n T z A hg ver (cqL cq (rnC T z A (ver hg) b.toNatClampNeg o v).2.2.2) (feL fe cq (rnC T z A (ver hg) b.toNatClampNeg o v).2.2.2) tms (ca + 1) ([]) (nI (rnC T z A (ver hg) b.toNatClampNeg o v).2.1) ((rnC T z A (ver hg) b.toNatClampNeg o v).2.2.1) ((rnC T z A (ver hg) b.toNatClampNeg o v).1) xc (ldS (rnC T z A (ver hg) b.toNatClampNeg o v).2.2.2) (trS (rnC T z A (ver hg) b.toNatClampNeg o v).2.2.2) (gfS (rnC T z A (ver hg) b.toNatClampNeg o v).2.2.2) D2)) ∨ ((0 ≤ o.toInt ∧ o.toInt < n ∧ 0 ≤ b.toInt ∧ b.toInt < 6) ∧ hg ≤ 39 ∧ (rnC T z A (ver hg) b.toNatClampNeg o v).1 = 0 ∧ r1.toInt = 0 ∧ wls (dif n T (ver hg) (bdS (rnC T z A (ver hg) b.toNatClampNeg o v).2.2.2)) 192 = [] ∧ (∃ D2, CM G k own n z D2 f2 ∧ GC n T z A hg ver (cqL cq (rnC T z A (ver hg) b.toNatClampNeg o v).2.2.2) (feL fe cq (rnC T z A (ver hg) b.toNatClampNeg o v).2.2.2) tms (ca + 1) ([]) (-3) ((rnC T z A (ver hg) b.toNatClampNeg o v).2.2.1) 0 xc (ldS (rnC T z A (ver hg) b.toNatClampNeg o v).2.2.2) (trS (rnC T z A (ver hg) b.toNatClampNeg o v).2.2.2) (gfS (rnC T z A (ver hg) b.toNatClampNeg o v).2.2.2) D2)) ∨ ((0 ≤ o.toInt ∧ o.toInt < n ∧ 0 ≤ b.toInt ∧ b.toInt < 6) ∧ hg ≤ 39 ∧ (rnC T z A (ver hg) b.toNatClampNeg o v).1 = 0 ∧ r1.toInt = 0 ∧ wls (dif n T (ver hg) (bdS (rnC T z A (ver hg) b.toNatClampNeg o v).2.2.2)) 192 ≠ [] ∧ (∃ D2, CM G k own n z D2 f2 ∧ GC n T z A (hg + 1) (va_up ver (hg + 1) (bdS (rnC T z A (ver hg) b.toNatClampNeg o v).2.2.2)) (fun _ => false) (feL fe cq (rnC T z A (ver hg) b.toNatClampNeg o v).2.2.2) (tmS tms (dif n T (ver hg) (bdS (rnC T z A (ver hg) b.toNatClampNeg o v).2.2.2)) 192) (ca + 1) (wls (dif n T (ver hg) (bdS (rnC T z A (ver hg) b.toNatClampNeg o v).2.2.2)) 192) (-3) ((rnC T z A (ver hg) b.toNatClampNeg o v).2.2.1) 0 xc (ldS (rnC T z A (ver hg) b.toNatClampNeg o v).2.2.2) (trS (rnC T z A (ver hg) b.toNatClampNeg o v).2.2.2) (gfS (rnC T z A (ver hg) b.toNatClampNeg o v).2.2.2) D2)))) (h2 : ((¬ (0 ≤ o.toInt ∧ o.toInt < n ∧ 0 ≤ b.toInt ∧ b.toInt < 6) ∧ r2.toInt = -1 ∧ FM G h n T z A hg ver cq fe tms ca wl wh ac th xm s f3) ∨ ((0 ≤ o.toInt ∧ o.toInt < n ∧ 0 ≤ b.toInt ∧ b.toInt < 6) ∧ hg = 40 ∧ r2.toInt = -2 ∧ FM G h n T z A hg ver cq fe tms ca wl wh ac th xm s f3) ∨ ((0 ≤ o.toInt ∧ o.toInt < n ∧ 0 ≤ b.toInt ∧ b.toInt < 6) ∧ hg ≤ 39 ∧ (rnC T z A (ver hg) b.toNatClampNeg o v).1 ≠ 0 ∧ r2.toInt = (rnC T z A (ver hg) b.toNatClampNeg o v).1 ∧ FM G h n T z A hg ver (cqL cq (rnC T z A (ver hg) b.toNatClampNeg o v).2.2.2) (feL fe cq (rnC T z A (ver hg) b.toNatClampNeg o v).2.2.2) tms (ca + 1) ([]) (nI (rnC T z A (ver hg) b.toNatClampNeg o v).2.1) ((rnC T z A (ver hg) b.toNatClampNeg o v).2.2.1) ((rnC T z A (ver hg) b.toNatClampNeg o v).1) xm ((rnC T z A (ver hg) b.toNatClampNeg o v).2.2.2) f3) ∨ ((0 ≤ o.toInt ∧ o.toInt < n ∧ 0 ≤ b.toInt ∧ b.toInt < 6) ∧ hg ≤ 39 ∧ (rnC T z A (ver hg) b.toNatClampNeg o v).1 = 0 ∧ r2.toInt = 0 ∧ wls (dif n T (ver hg) (bdS (rnC T z A (ver hg) b.toNatClampNeg o v).2.2.2)) 192 = [] ∧ FM G h n T z A hg ver (cqL cq (rnC T z A (ver hg) b.toNatClampNeg o v).2.2.2) (feL fe cq (rnC T z A (ver hg) b.toNatClampNeg o v).2.2.2) tms (ca + 1) ([]) (-3) ((rnC T z A (ver hg) b.toNatClampNeg o v).2.2.1) 0 xm ((rnC T z A (ver hg) b.toNatClampNeg o v).2.2.2) f3) ∨ ((0 ≤ o.toInt ∧ o.toInt < n ∧ 0 ≤ b.toInt ∧ b.toInt < 6) ∧ hg ≤ 39 ∧ (rnC T z A (ver hg) b.toNatClampNeg o v).1 = 0 ∧ r2.toInt = 0 ∧ wls (dif n T (ver hg) (bdS (rnC T z A (ver hg) b.toNatClampNeg o v).2.2.2)) 192 ≠ [] ∧ FM G h n T z A (hg + 1) (va_up ver (hg + 1) (bdS (rnC T z A (ver hg) b.toNatClampNeg o v).2.2.2)) (fun _ => false) (feL fe cq (rnC T z A (ver hg) b.toNatClampNeg o v).2.2.2) (tmS tms (dif n T (ver hg) (bdS (rnC T z A (ver hg) b.toNatClampNeg o v).2.2.2)) 192) (ca + 1) (wls (dif n T (ver hg) (bdS (rnC T z A (ver hg) b.toNatClampNeg o v).2.2.2)) 192) (-3) ((rnC T z A (ver hg) b.toNatClampNeg o v).2.2.1) 0 xm ((rnC T z A (ver hg) b.toNatClampNeg o v).2.2.2) f3))) (kc : ∀ (n : Nat) (z : Nat → Nat) (D : tD), CM G k own n z D f2 → CM G k own n z D f3) : r1 = r2 ∧ JI G k h own f3 := by
  rcases h1 with ⟨c1, e1, D2, m1, g1⟩ | ⟨c1, w1, e1, D2, m1, g1⟩ | ⟨c1, w1, d1, e1, D2, m1, g1⟩ | ⟨c1, w1, d1, e1, v1, D2, m1, g1⟩ | ⟨c1, w1, d1, e1, v1, D2, m1, g1⟩ <;> rcases h2 with ⟨c2, e2, F2⟩ | ⟨c2, w2, e2, F2⟩ | ⟨c2, w2, d2, e2, F2⟩ | ⟨c2, w2, d2, e2, v2, F2⟩ | ⟨c2, w2, d2, e2, v2, F2⟩
  · exact ⟨ieq e1 e2, JI.mk (kc _ _ _ m1) g1 F2⟩
  · exact absurd c2 c1
  · exact absurd c2 c1
  · exact absurd c2 c1
  · exact absurd c2 c1
  · exact absurd c1 c2
  · exact ⟨ieq e1 e2, JI.mk (kc _ _ _ m1) g1 F2⟩
  · omega
  · omega
  · omega
  · exact absurd c1 c2
  · omega
  · exact ⟨ieq e1 e2, JI.mk (kc _ _ _ m1) g1 F2⟩
  · exact absurd d2 d1
  · exact absurd d2 d1
  · exact absurd c1 c2
  · omega
  · exact absurd d1 d2
  · exact ⟨ieq e1 e2, JI.mk (kc _ _ _ m1) g1 F2⟩
  · exact absurd v1 v2
  · exact absurd c1 c2
  · omega
  · exact absurd d1 d2
  · exact absurd v2 v1
  · exact ⟨ieq e1 e2, JI.mk (kc _ _ _ m1) g1 F2⟩
theorem join_hint {G : mG} {k h : Nat → Nat} {own : tR} {f2 f3 : mF} {n : Nat} {T z : Nat → Nat} {A : Nat → tA} {hg : Nat} {ver : Nat → Nat → tB} {cq : Nat → Bool} {fe : Int32} {tms : Nat → Int32} {ca : Int32} {wl : List Nat} {wh : Int32} {ac th : Nat} {xc xm : Int32} {s : tS} {r1 r2 : Int32} {o : Int32} (h1 : r1 = htA n cq o ∧ ((¬ (0 ≤ o.toInt ∧ o.toInt < n) ∧ (∃ D2, CM G k own n z D2 f2 ∧ GC n T z A hg ver cq fe tms ca wl wh ac th xc (ldS s) (trS s) (gfS s) D2)) ∨ ((0 ≤ o.toInt ∧ o.toInt < n) ∧ (∃ D2, CM G k own n z D2 f2 ∧ GC n T z A hg ver (va_up cq o.toNatClampNeg true) (fe + htA n cq o) tms ca wl wh ac th xc (ldS s) (trS s) (gfS s) D2)))) (h2 : r2 = htA n cq o ∧ ((¬ (0 ≤ o.toInt ∧ o.toInt < n) ∧ FM G h n T z A hg ver cq fe tms ca wl wh ac th xm s f3) ∨ ((0 ≤ o.toInt ∧ o.toInt < n) ∧ FM G h n T z A hg ver (va_up cq o.toNatClampNeg true) (fe + htA n cq o) tms ca wl wh ac th xm s f3))) (kc : ∀ (n : Nat) (z : Nat → Nat) (D : tD), CM G k own n z D f2 → CM G k own n z D f3) : r1 = r2 ∧ JI G k h own f3 := by
  obtain ⟨e1, h1⟩ := h1
  obtain ⟨e2, h2⟩ := h2
  refine ⟨e1.trans e2.symm, ?_⟩
  rcases h1 with ⟨c1, D2, m1, g1⟩ | ⟨c1, D2, m1, g1⟩ <;> rcases h2 with ⟨c2, F2⟩ | ⟨c2, F2⟩
  · exact JI.mk (kc _ _ _ m1) g1 F2
  · exact absurd c2 c1
  · exact absurd c1 c2
  · exact JI.mk (kc _ _ _ m1) g1 F2
theorem vwA_det {n : Nat} {T : Nat → Nat} {hg : Nat} {ver : Nat → Nat → tB} {o j a i : Int32} {r1 r2 : Int64} {x1 x2 : Int32} (h1 : vwA n T hg ver o j a i r1 x1) (h2 : vwA n T hg ver o j a i r2 x2) : r1 = r2 := by
  have k3 : ∀ x : Int32, x.toInt = -3 → ¬ 0 ≤ x.toInt := fun x hx => by omega
  rcases h1 with ⟨a1, a2, a3⟩ | ⟨a1, a2, a3, a4⟩ | ⟨a1, a2, a3, a4, a5, a6⟩ | ⟨a1, a2, a3, a4, a5⟩ <;> rcases h2 with ⟨b1, b2, b3⟩ | ⟨b1, b2, b3, b4⟩ | ⟨b1, b2, b3, b4, b5, b6⟩ | ⟨b1, b2, b3, b4, b5⟩
  · exact a2.trans b2.symm
  · exact absurd b1 a1
  · exact absurd b1 a1
  · exact absurd b1 a1
  · exact absurd a1 b1
  · exact a3.trans b3.symm
  · exact absurd b3 (k3 _ a2)
  · exact absurd a2 b2
  · exact absurd a1 b1
  · exact absurd a3 (k3 _ b2)
  · exact a5.trans b5.symm
  · rcases b3 with q | q | q
    · exact absurd a2 q
    · omega
    · omega
  · exact absurd a1 b1
  · exact absurd b2 a2
  · rcases a3 with q | q | q
    · exact absurd b2 q
    · omega
    · omega
  · exact a4.trans b4.symm
theorem join_view {G : mG} {k h : Nat → Nat} {own : tR} {f2 f3 : mF} {n : Nat} {T z : Nat → Nat} {A : Nat → tA} {hg : Nat} {ver : Nat → Nat → tB} {cq : Nat → Bool} {fe : Int32} {tms : Nat → Int32} {ca : Int32} {wl : List Nat} {wh : Int32} {ac th : Nat} {xc xm : Int32} {s : tS} {r1 r2 : Int64} {o j a ix : Int32} (h1 : ∃ sx2, vwA n T hg ver o j a ix r1 sx2 ∧ (∃ D2, CM G k own n z D2 f2 ∧ GC n T z A hg ver cq fe tms ca wl wh ac th sx2 (ldS s) (trS s) (gfS s) D2)) (h2 : ∃ sx2, vwA n T hg ver o j a ix r2 sx2 ∧ FM G h n T z A hg ver cq fe tms ca wl wh ac th sx2 s f3) (kc : ∀ (n : Nat) (z : Nat → Nat) (D : tD), CM G k own n z D f2 → CM G k own n z D f3) : r1 = r2 ∧ JI G k h own f3 := by
  obtain ⟨x1, v1, D2, m1, g1⟩ := h1
  obtain ⟨x2, v2, F2⟩ := h2
  exact ⟨vwA_det v1 v2, JI.mk (kc _ _ _ m1) g1 F2⟩
