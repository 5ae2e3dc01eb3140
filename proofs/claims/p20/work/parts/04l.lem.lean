theorem fit_in {k j : Nat} {v : Int} {m : Int32} {M : Int} (h : mostF (5 * k + j) = m) (hM : m.toInt = M) (h0 : 0 ≤ v) (h1 : v ≤ M) : fitA k j v := Or.inr ⟨h0, by rw [h, hM]; exact h1⟩
theorem fit_get {k j : Nat} {v : Int} {m : Int32} {M : Int} (h : mostF (5 * k + j) = m) (hm : m ≠ -1) (hM : m.toInt = M) (f : fitA k j v) : 0 ≤ v ∧ v ≤ M := by
  rcases f with f | f
  · exact absurd (h.symm.trans f) hm
  · rw [h, hM] at f; exact f
theorem okA_mk {t : tA} (k : Nat) (hk : k < 18) (ht : t.1.toInt = k) (f0 : fitA k 0 t.2.1.toInt) (f1 : fitA k 1 t.2.2.1.toInt) (f2 : fitA k 2 t.2.2.2.1.toInt) (f3 : fitA k 3 t.2.2.2.2.1.toInt) (f4 : fitA k 4 t.2.2.2.2.2.toInt) : okA t := ⟨k, hk, ic_inj ht (by omega), f0, f1, f2, f3, f4⟩
theorem okA_rng {t : tA} (h : okA t) : 0 ≤ t.1.toInt ∧ t.1.toInt ≤ 17 := by
  obtain ⟨k, hk, e, -⟩ := h
  have := ic_nI e (by omega)
  omega
theorem okA_no {t : tA} (k : Nat) (ht : t.1.toInt = k) (hn : fitA k 0 t.2.1.toInt → fitA k 1 t.2.2.1.toInt → fitA k 2 t.2.2.2.1.toInt → fitA k 3 t.2.2.2.2.1.toInt → fitA k 4 t.2.2.2.2.2.toInt → False) : ¬ okA t := by
  rintro ⟨q, hq, e, f0, f1, f2, f3, f4⟩
  have := ic_nI e (by omega)
  have : q = k := by omega
  subst this
  exact hn f0 f1 f2 f3 f4
theorem ic_or01 {x a b : Int32} (e : x = a ||| b) (ha : a.toInt = 0 ∨ a.toInt = 1) (hb : b.toInt = 0 ∨ b.toInt = 1) : x.toInt = 0 ∨ x.toInt = 1 := by
  have h0 : ∀ q : Int32, q.toInt = 0 → q = 0 := fun q h => Int32.toInt_inj.mp h
  have h1 : ∀ q : Int32, q.toInt = 1 → q = 1 := fun q h => Int32.toInt_inj.mp h
  rcases ha with ha | ha <;> rcases hb with hb | hb <;> rw [e]
  · rw [h0 a ha, h0 b hb]; decide
  · rw [h0 a ha, h1 b hb]; decide
  · rw [h1 a ha, h0 b hb]; decide
  · rw [h1 a ha, h1 b hb]; decide
theorem ic_or0 {x a b : Int32} {A B : Int} (e : x = a ||| b) (ha : a.toInt = A) (hb : b.toInt = B) (hA : A = 0 ∨ A = 1) (hB : B = 0 ∨ B = 1) : x.toInt = 0 → A = 0 ∧ B = 0 := by
  have h0 : ∀ q : Int32, q.toInt = 0 → q = 0 := fun q h => Int32.toInt_inj.mp h
  have h1 : ∀ q : Int32, q.toInt = 1 → q = 1 := fun q h => Int32.toInt_inj.mp h
  subst ha; subst hb
  intro hx
  rcases hA with ha | ha <;> rcases hB with hb | hb
  · exact ⟨ha, hb⟩
  · rw [e, h0 a ha, h1 b hb] at hx; exact absurd hx (by decide)
  · rw [e, h1 a ha, h0 b hb] at hx; exact absurd hx (by decide)
  · rw [e, h1 a ha, h1 b hb] at hx; exact absurd hx (by decide)
theorem upd_far {g : Nat → Int32} {k i : Nat} {v : Int32} (h : i ≠ k) : upd g k v i = g i := by unfold upd; rw [if_neg h]
theorem upd_at {g : Nat → Int32} {k : Nat} {v : Int32} : upd g k v k = v := by unfold upd; rw [if_pos rfl]
theorem tch_ext {tm : Int32} {tl th tl2 th2 : Nat → Int32} (h : tchOK tm tl th) (he : ∀ i : Nat, (i : Int) < tm.toInt → tl2 i = tl i ∧ th2 i = th i) : tchOK tm tl2 th2 := by
  refine ⟨fun i hi => ?_, fun i j hi hj a b => ?_⟩
  · rw [(he i hi).1, (he i hi).2]; exact h.1 i hi
  · rw [(he i hi).1, (he j hj).1] at a
    rw [(he i hi).2, (he j hj).2] at b
    exact h.2 i j hi hj a b
theorem tch_add {tm tm2 : Int32} {tl th : Nat → Int32} {k : Nat} {lf hw : Int32} (h : tchOK tm tl th) (e : tm2.toInt = tm.toInt + 1) (hl : 0 ≤ lf.toInt ∧ lf.toInt < 192) (hh : 0 ≤ hw.toInt ∧ hw.toInt < 2) (hk : (k : Int) = tm.toInt) (e1 : tl k = lf) (e2 : th k = hw) (hno : ∀ i : Nat, (i : Int) < tm.toInt → ¬ (tl i = lf ∧ th i = hw)) : tchOK tm2 tl th := by
  refine ⟨fun i hi => ?_, fun i j hi hj a b => ?_⟩
  · by_cases hq : i = k
    · subst hq; rw [e1, e2]; exact ⟨hl.1, hl.2, hh.1, hh.2⟩
    · exact h.1 i (by omega)
  · by_cases hi2 : i = k <;> by_cases hj2 : j = k
    · omega
    · subst hi2
      exact absurd ⟨a.symm.trans e1, b.symm.trans e2⟩ (hno j (by omega))
    · subst hj2
      exact absurd ⟨a.trans e1, b.trans e2⟩ (hno i (by omega))
    · exact h.2 i j (by omega) (by omega) a b
theorem xTch_mk {G : mG} {h : Nat → Nat} {f : mF} {fs : List Value} {tm : Int32} {tl th : Nat → Int32} (e0 : f (h 0) = some (.inr (6, fs))) (et : fs[19]? = some (.int tm)) (e20 : f (h 20) = some (.inl (gk G 0, 400, .inl tl))) (e21 : f (h 21) = some (.inl (gk G 0, 400, .inl th))) (hT : tchOK tm tl th) : xTch G h f := by
  intro fs' tm' tl' th' q0 qt q20 q21
  rw [e0] at q0; cases q0
  rw [et] at qt; cases qt
  rw [e20] at q20; cases q20
  rw [e21] at q21; cases q21
  exact hT
theorem IM.actAt {G : mG} {h : Nat → Nat} {n : Nat} {T : Nat → Int32} {z : Nat → Nat} {A : Nat → tA} {f : mF} (hI : IM G h n T z A f) {K : Nat} (hv : vld z K) : okA (A K) := by
  have := hI.2.2.2.2.2 (K / 32) (by have := hv.1; omega) (K % 32) hv.2
  rw [show 32 * (K / 32) + K % 32 = K by omega] at this
  exact this
theorem okA_mk6 {kd a : Int32} {b : Int64} {c d e : Int32} (k : Nat) (hk : k < 18) (ht : kd.toInt = k) (f0 : fitA k 0 a.toInt) (f1 : fitA k 1 b.toInt) (f2 : fitA k 2 c.toInt) (f3 : fitA k 3 d.toInt) (f4 : fitA k 4 e.toInt) : okA (kd, a, b, c, d, e) := okA_mk (t := (kd, a, b, c, d, e)) k hk ht f0 f1 f2 f3 f4
theorem okA_no6 {kd a : Int32} {b : Int64} {c d e : Int32} (k : Nat) (ht : kd.toInt = k) (hn : fitA k 0 a.toInt → fitA k 1 b.toInt → fitA k 2 c.toInt → fitA k 3 d.toInt → fitA k 4 e.toInt → False) : ¬ okA (kd, a, b, c, d, e) := okA_no (t := (kd, a, b, c, d, e)) k ht hn
theorem okA_rng6 {kd a : Int32} {b : Int64} {c d e : Int32} (h : okA (kd, a, b, c, d, e)) : 0 ≤ kd.toInt ∧ kd.toInt ≤ 17 := okA_rng h
theorem ic_cle {i : Nat} {k : Int32} (h : (i : Int) = k.toInt) : i = k.toNatClampNeg := by
  show i = k.toInt.toNat
  omega
