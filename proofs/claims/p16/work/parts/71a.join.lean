/-! what the law needs of act and view -/
def O1A (G : mG) (k : Nat → Nat) (own : tR) (f2 : mF) (n : Nat) (T z : Nat → Nat) (A : Nat → tA) (hg : Nat) (ver : Nat → Nat → tB) (cq : Nat → Bool) (fe : Int32) (tms : Nat → Int32) (ca : Int32) (wl : List Nat) (wh : Int32) (ac th : Nat) (xc : Int32) (s : tS) (r1 b kd a : Int32) (bb : Int64) (c_ d_ e_ : Int32) : Prop := ((¬ (0 ≤ b.toInt ∧ b.toInt < 6 ∧ okA (kd, a, bb, c_, d_, e_)) ∧ r1.toInt = -1 ∧ (∃ D2, CM G k own n z D2 f2 ∧ GC n T z A hg ver cq fe tms ca wl wh ac th xc (ldS s) (trS s) (gfS s) D2)) ∨ (((0 ≤ b.toInt ∧ b.toInt < 6 ∧ okA (kd, a, bb, c_, d_, e_)) ∧ z b.toNatClampNeg = 32 ∧ r1.toInt = -2 ∧ (∃ D2, CM G k own n z D2 f2 ∧ GC n T z A hg ver cq fe tms ca wl wh ac th xc (ldS s) (trS s) (gfS s) D2)) ∨ ((0 ≤ b.toInt ∧ b.toInt < 6 ∧ okA (kd, a, bb, c_, d_, e_)) ∧ z b.toNatClampNeg < 32 ∧ r1.toInt = z b.toNatClampNeg ∧ (∃ D2, CM G k own n (va_up z b.toNatClampNeg (z b.toNatClampNeg + 1)) D2 f2 ∧ GC n T (va_up z b.toNatClampNeg (z b.toNatClampNeg + 1)) (va_up A (32 * b.toNatClampNeg + z b.toNatClampNeg) (kd, a, bb, c_, d_, e_)) hg ver cq fe tms ca wl wh ac th xc (ldS s) (trS s) (gfS s) D2))))
theorem join_act2 {G : mG} {k h : Nat → Nat} {own : tR} {f2 f3 : mF} {n : Nat} {T z : Nat → Nat} {A : Nat → tA} {hg : Nat} {ver : Nat → Nat → tB} {cq : Nat → Bool} {fe : Int32} {tms : Nat → Int32} {ca : Int32} {wl : List Nat} {wh : Int32} {ac th : Nat} {xc xm : Int32} {s : tS} {r1 r2 : Int32} {b kd a : Int32} {bb : Int64} {c_ d_ e_ : Int32} (h1 : O1A G k own f2 n T z A hg ver cq fe tms ca wl wh ac th xc s r1 b kd a bb c_ d_ e_) (h2 : ((¬ (0 ≤ b.toInt ∧ b.toInt < 6 ∧ okA (kd, a, bb, c_, d_, e_)) ∧ r2.toInt = -1 ∧ FM G h n T z A hg ver cq fe tms ca wl wh ac th xm s f3) ∨ ((0 ≤ b.toInt ∧ b.toInt < 6 ∧ okA (kd, a, bb, c_, d_, e_)) ∧ z b.toNatClampNeg = 32 ∧ r2.toInt = -2 ∧ FM G h n T z A hg ver cq fe tms ca wl wh ac th xm s f3) ∨ ((0 ≤ b.toInt ∧ b.toInt < 6 ∧ okA (kd, a, bb, c_, d_, e_)) ∧ z b.toNatClampNeg < 32 ∧ r2.toInt = z b.toNatClampNeg ∧ FM G h n T (va_up z b.toNatClampNeg (z b.toNatClampNeg + 1)) (va_up A (32 * b.toNatClampNeg + z b.toNatClampNeg) (kd, a, bb, c_, d_, e_)) hg ver cq fe tms ca wl wh ac th xm s f3))) (kc : ∀ (n : Nat) (z : Nat → Nat) (D : tD), CM G k own n z D f2 → CM G k own n z D f3) : r1 = r2 ∧ JI G k h own f3 := by
  unfold O1A at h1
  rcases h1 with ⟨c1, e1, D2, m1, g1⟩ | ⟨c1, w1, e1, D2, m1, g1⟩ | ⟨c1, w1, e1, D2, m1, g1⟩ <;> rcases h2 with ⟨c2, e2, F2⟩ | ⟨c2, w2, e2, F2⟩ | ⟨c2, w2, e2, F2⟩
  · exact ⟨ieq e1 e2, JI.mk (kc _ _ _ m1) g1 F2⟩
  · exact absurd c2 c1
  · exact absurd c2 c1
  · exact absurd c1 c2
  · exact ⟨ieq e1 e2, JI.mk (kc _ _ _ m1) g1 F2⟩
  · omega
  · exact absurd c1 c2
  · omega
  · exact ⟨ieq e1 e2, JI.mk (kc _ _ _ m1) g1 F2⟩
theorem join_view2 {G : mG} {k h : Nat → Nat} {own : tR} {f2 f3 : mF} {n : Nat} {T z : Nat → Nat} {A : Nat → tA} {hg : Nat} {ver : Nat → Nat → tB} {cq : Nat → Bool} {fe : Int32} {tms : Nat → Int32} {ca : Int32} {wl : List Nat} {wh : Int32} {ac th : Nat} {s : tS} {r1 r2 : Int64} {o j a ix : Int32} (h1 : ∃ sx2, vwA n T hg ver o j a ix r1 sx2 ∧ (∃ D2, CM G k own n z D2 f2 ∧ GC n T z A hg ver cq fe tms ca wl wh ac th sx2 (ldS s) (trS s) (gfS s) D2)) (h2 : ∃ sx2, vwA n T hg ver o j a ix r2 sx2 ∧ FM G h n T z A hg ver cq fe tms ca wl wh ac th sx2 s f3) (kc : ∀ (n : Nat) (z : Nat → Nat) (D : tD), CM G k own n z D f2 → CM G k own n z D f3) : r1 = r2 ∧ JI G k h own f3 := by
  obtain ⟨x1, v1, D2, m1, g1⟩ := h1
  obtain ⟨x2, v2, F2⟩ := h2
  exact ⟨vwA_det v1 v2, JI.mk (kc _ _ _ m1) g1 F2⟩
