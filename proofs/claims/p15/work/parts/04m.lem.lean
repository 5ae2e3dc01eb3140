theorem pNu_get {n : Nat} {T : Nat → Int32} {nu : Nat → Int64} {i : Int32} {a o j : Int} (hp : pNu n T nu) (hi : i.toInt = 192 * a + 8 * o + j) (ha : 0 ≤ a) (ha2 : a ≤ 41) (ho : 0 ≤ o) (ho2 : o < n) (hj : 0 ≤ j) (hj2 : j < 8) (hn : n ≤ 24) (hs : srtM (T o.toNat).toInt j = 1) : -3 ≤ (nu i.toNatClampNeg).toInt ∧ (nu i.toNatClampNeg).toInt < n := by
  have hc := ic_clN hi (by omega)
  have h := (hp i.toNatClampNeg (by omega)).2
  rw [show i.toNatClampNeg % 192 / 8 = o.toNat by omega, show ((i.toNatClampNeg % 8 : Nat) : Int) = j by omega] at h
  exact h (by omega) hs
theorem vld_mk {z : Nat → Nat} {b p : Nat} (hb : b < 6) (hp : p < z b) (hz : z b ≤ 32) : vld z (32 * b + p) := by
  refine ⟨by omega, ?_⟩
  rw [show (32 * b + p) % 32 = p by omega, show (32 * b + p) / 32 = b by omega]
  exact hp
theorem xTch_0 {G : mG} {h : Nat → Nat} {f : mF} {fs : List Value} (e0 : f (h 0) = some (.inr (6, fs))) (et : fs[19]? = some (.int 0)) : xTch G h f := by
  intro fs' tm' tl' th' q0 qt q20 q21
  rw [e0] at q0; cases q0
  rw [et] at qt; cases qt
  refine ⟨fun i hi => ?_, fun i j hi => ?_⟩
  · have := kI_0; omega
  · have := kI_0; omega
theorem ic_div8 {x a : Int32} {A : Int} (e : x = a / 8) (ha : a.toInt = A) (h0 : 0 ≤ A) : x.toInt = A / 8 := by
  have hr := ic_rng a
  have e1 : a = nI A.toNat := ic_inj (by omega) (by omega)
  rw [e, e1, show (8 : Int32) = nI 8 from rfl, pk_div (by omega) (by omega) (by omega), nI_toInt (by omega)]
  omega
theorem ic_rem8 {x a : Int32} {A : Int} (e : x = a - a / 8 * 8) (ha : a.toInt = A) (h0 : 0 ≤ A) : x.toInt = A % 8 := by
  have hr := ic_rng a
  have e1 : a = nI A.toNat := ic_inj (by omega) (by omega)
  rw [e, e1, show (8 : Int32) = nI 8 from rfl, pk_rem (by omega) (by omega) (by omega), nI_toInt (by omega)]
  omega
theorem okM0_b {h : Nat → Nat} {n : Nat} {e : Option va_E} {he fe ca : Int32} {ga : Int64} {wh tm wm ac th st : Int32} (ho : okM0 h n e) (F : e = some (.inr (6, [.int (nI n), .ref (h 1), .int he, .ref (h 3), .ref (h 4), .ref (h 5), .ref (h 6), .int fe, .ref (h 8), .ref (h 9), .ref (h 10), .ref (h 11), .ref (h 12), .ref (h 13), .ref (h 14), .ref (h 15), .int ca, .long ga, .int wh, .int tm, .ref (h 20), .ref (h 21), .int wm, .ref (h 23), .ref (h 24), .int ac, .ref (h 26), .ref (h 27), .int th, .int st]))) : 0 ≤ he.toInt ∧ he.toInt ≤ 40 ∧ 0 ≤ tm.toInt ∧ tm.toInt ≤ 384 ∧ 0 ≤ wm.toInt ∧ wm.toInt ≤ 192 ∧ 0 ≤ ac.toInt ∧ ac.toInt ≤ 200 := by
  obtain ⟨a1, a2, a3, a4, a5, a6, a7, a8, a9, a10, q, hb⟩ := ho
  rw [F] at q
  cases q
  exact hb
