def ndl (k : Nat → Nat) (i : Nat) (f : mF) (T : Nat → Nat) (p q : Int32) : Nat := if p = q ∨ p = -3 ∨ q = -3 ∨ ¬ T p.toNatClampNeg = T q.toNatClampNeg then 0 else nd k i f p.toNatClampNeg + nd k i f q.toNatClampNeg
theorem ndl_0 {k : Nat → Nat} {i : Nat} {f : mF} {T : Nat → Nat} {p q : Int32} (h : p = q ∨ p = -3 ∨ q = -3 ∨ ¬ T p.toNatClampNeg = T q.toNatClampNeg) : ndl k i f T p q = 0 := by unfold ndl; rw [if_pos h]
theorem ndl_1 {k : Nat → Nat} {i : Nat} {f : mF} {T : Nat → Nat} {p q : Int32} (h1 : ¬ p = q) (h2 : ¬ p = -3) (h3 : ¬ q = -3) (h4 : T p.toNatClampNeg = T q.toNatClampNeg) : ndl k i f T p q = nd k i f p.toNatClampNeg + nd k i f q.toNatClampNeg := by
  unfold ndl
  rw [if_neg (fun z => z.elim h1 (fun z => z.elim h2 (fun z => z.elim h3 (fun z => z h4))))]
theorem ndl_le {k : Nat → Nat} {i : Nat} {f : mF} {T : Nat → Nat} {p q : Int32} : ndl k i f T p q ≤ 2 := by
  unfold ndl
  have h1 := nd_le (k := k) (i := i) (f := f) (o := p.toNatClampNeg)
  have h2 := nd_le (k := k) (i := i) (f := f) (o := q.toNatClampNeg)
  split <;> omega
theorem nd_c {k : Nat → Nat} {i o : Nat} {f f2 : mF} (h : cpF k i f2 o = cpF k i f o) : nd k i f2 o = nd k i f o := by unfold nd; rw [h]
def nds (k : Nat → Nat) (i : Nat) (f : mF) (a c : Nat) : Nat := ndh k i f a + (if haF k i f a = haF k i f c then 0 else ndh k i f c)
theorem nds_le {k : Nat → Nat} {i a c : Nat} {f : mF} : nds k i f a c ≤ 2 := by
  unfold nds
  have h1 := ndh_le (k := k) (i := i) (f := f) (h := a)
  have h2 := ndh_le (k := k) (i := i) (f := f) (h := c)
  split <;> omega
/-- the second asking, behind the first: it needs what the first has left -/
theorem nds_2 {k : Nat → Nat} {i n a c o : Nat} {f f1 : mF} (h1 : aspP k i a f f1) (h2 : askd k i n a f1 o) (hn : n ≤ 24) (hp : (haF k i f c).toInt = -3 ∨ (0 ≤ (haF k i f c).toInt ∧ (haF k i f c).toInt < n)) : ndh k i f1 c = if haF k i f a = haF k i f c then 0 else ndh k i f c := by
  have hh : haF k i f1 = haF k i f := haF_c h1.2.2.1
  have ha : haF k i f a = nI o := by rw [← hh]; exact h2.2.1
  have ho := h2.1
  split
  · rename_i he
    unfold ndh
    rw [hh, ← he, ha]
    have : nI o ≠ -3 := fun z => by
      have := congrArg Int32.toInt z
      rw [nI_toInt (by omega)] at this
      have e3 := kI_m3
      omega
    rw [if_neg this, nI_clamp (by omega)]
    exact nd_0 h2.2.2
  · rename_i he
    unfold ndh
    rw [hh]
    split
    · rfl
    · rename_i hc
      have h3 : 0 ≤ (haF k i f c).toInt ∧ (haF k i f c).toInt < n := by
        rcases hp with q | q
        · exact absurd (Int32.toInt_inj.mp (by rw [q]; rfl)) hc
        · exact q
      refine nd_c (h1.2.1 _ (ic_cl rfl h3.1 (by omega)) (fun z => he ?_))
      rw [z]
      exact (ic_inj (ic_clN rfl h3.1).symm (by have := ic_clN (rfl : (haF k i f c).toInt = _) h3.1; omega)).symm
theorem pHa_get {G : mG} {k : Nat → Nat} {rho : tR} {n : Nat} {T z : Nat → Nat} {st : Nat → Bool} {f : mF} (hI : IC G k rho n T z st f) {i h : Nat} (hi : i < 3) (hh : h < 4) (hn : 0 < n) : (haF k i f h).toInt = -3 ∨ (0 ≤ (haF k i f h).toInt ∧ (haF k i f h).toInt < n) := by
  obtain ⟨g, e, hp⟩ : okI G 0 4 (pHa n) (f (k (5 + 8 * i + 6))) := hI.run (c := 6) hi (by decide)
  rw [haF_eq e]
  have := hp h hh
  omega
