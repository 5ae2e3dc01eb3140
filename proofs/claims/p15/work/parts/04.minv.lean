/-! integers: what a comparison or a sum of ints says of whole numbers -/
theorem ic_rng (x : Int32) : -2147483648 ≤ x.toInt ∧ x.toInt ≤ 2147483647 := ⟨Int32.le_toInt x, by have := Int32.toInt_lt x; omega⟩
theorem ic_lt {x y : Int32} {A B : Int} (hx : x.toInt = A) (hy : y.toInt = B) (h : x < y) : A < B := by rw [← hx, ← hy]; exact Int32.lt_iff_toInt_lt.mp h
theorem ic_nlt {x y : Int32} {A B : Int} (hx : x.toInt = A) (hy : y.toInt = B) (h : ¬ x < y) : A ≥ B := by rw [← hx, ← hy]; exact Int.not_lt.mp (fun q => h (Int32.lt_iff_toInt_lt.mpr q))
theorem ic_le {x y : Int32} {A B : Int} (hx : x.toInt = A) (hy : y.toInt = B) (h : x ≤ y) : A ≤ B := by rw [← hx, ← hy]; exact Int32.le_iff_toInt_le.mp h
theorem ic_nle {x y : Int32} {A B : Int} (hx : x.toInt = A) (hy : y.toInt = B) (h : ¬ x ≤ y) : A > B := by rw [← hx, ← hy]; exact Int.not_le.mp (fun q => h (Int32.le_iff_toInt_le.mpr q))
theorem ic_eq {x y : Int32} {A B : Int} (hx : x.toInt = A) (hy : y.toInt = B) (h : x = y) : A = B := by rw [← hx, ← hy, h]
theorem ic_ne {x y : Int32} {A B : Int} (hx : x.toInt = A) (hy : y.toInt = B) (h : ¬ x = y) : A ≠ B := fun q => h (Int32.toInt_inj.mp (by rw [hx, hy]; exact q))
theorem lc_rng (x : Int64) : -9223372036854775808 ≤ x.toInt ∧ x.toInt ≤ 9223372036854775807 := ⟨Int64.le_toInt x, by have := Int64.toInt_lt x; omega⟩
theorem lc_lt {x y : Int64} {A B : Int} (hx : x.toInt = A) (hy : y.toInt = B) (h : x < y) : A < B := by rw [← hx, ← hy]; exact Int64.lt_iff_toInt_lt.mp h
theorem lc_nlt {x y : Int64} {A B : Int} (hx : x.toInt = A) (hy : y.toInt = B) (h : ¬ x < y) : A ≥ B := by rw [← hx, ← hy]; exact Int.not_lt.mp (fun q => h (Int64.lt_iff_toInt_lt.mpr q))
theorem lc_le {x y : Int64} {A B : Int} (hx : x.toInt = A) (hy : y.toInt = B) (h : x ≤ y) : A ≤ B := by rw [← hx, ← hy]; exact Int64.le_iff_toInt_le.mp h
theorem lc_nle {x y : Int64} {A B : Int} (hx : x.toInt = A) (hy : y.toInt = B) (h : ¬ x ≤ y) : A > B := by rw [← hx, ← hy]; exact Int.not_le.mp (fun q => h (Int64.le_iff_toInt_le.mpr q))
theorem lc_eq {x y : Int64} {A B : Int} (hx : x.toInt = A) (hy : y.toInt = B) (h : x = y) : A = B := by rw [← hx, ← hy, h]
theorem lc_ne {x y : Int64} {A B : Int} (hx : x.toInt = A) (hy : y.toInt = B) (h : ¬ x = y) : A ≠ B := fun q => h (Int64.toInt_inj.mp (by rw [hx, hy]; exact q))
theorem bm32 {A : Int} (h1 : -2147483648 ≤ A) (h2 : A ≤ 2147483647) : A.bmod (2 ^ 32) = A := Int.bmod_eq_of_le (by omega) (by omega)
theorem bm64 {A : Int} (h1 : -9223372036854775808 ≤ A) (h2 : A ≤ 9223372036854775807) : A.bmod (2 ^ 64) = A := Int.bmod_eq_of_le (by omega) (by omega)
theorem ic_add {x a b : Int32} {A B : Int} (e : x = a + b) (ha : a.toInt = A) (hb : b.toInt = B) (h1 : -2147483648 ≤ A + B) (h2 : A + B ≤ 2147483647) : x.toInt = A + B := by rw [e, Int32.toInt_add, ha, hb]; exact bm32 h1 h2
theorem ic_sub {x a b : Int32} {A B : Int} (e : x = a - b) (ha : a.toInt = A) (hb : b.toInt = B) (h1 : -2147483648 ≤ A - B) (h2 : A - B ≤ 2147483647) : x.toInt = A - B := by rw [e, Int32.toInt_sub, ha, hb]; exact bm32 h1 h2
theorem ic_mul {x a b : Int32} {A B : Int} (e : x = a * b) (ha : a.toInt = A) (hb : b.toInt = B) (h1 : -2147483648 ≤ A * B) (h2 : A * B ≤ 2147483647) : x.toInt = A * B := by rw [e, Int32.toInt_mul, ha, hb]; exact bm32 h1 h2
theorem lc_sub {x a b : Int64} {A B : Int} (e : x = a - b) (ha : a.toInt = A) (hb : b.toInt = B) (h1 : -9223372036854775808 ≤ A - B) (h2 : A - B ≤ 9223372036854775807) : x.toInt = A - B := by rw [e, Int64.toInt_sub, ha, hb]; exact bm64 h1 h2
theorem lc_i2l {x : Int32} {y : Int64} {A : Int} (e : y = x.toInt64) (hx : x.toInt = A) : y.toInt = A := by rw [e, Int32.toInt_toInt64]; exact hx
theorem ic_l2i {x : Int64} {y : Int32} {A : Int} (e : y = x.toInt32) (hx : x.toInt = A) (h1 : -2147483648 ≤ A) (h2 : A ≤ 2147483647) : y.toInt = A := by rw [e, Int64.toInt_toInt32, hx]; exact bm32 h1 h2
theorem ic_cl {i : Int32} {A : Int} {n : Nat} (hi : i.toInt = A) (h0 : 0 ≤ A) (h1 : A < n) : i.toNatClampNeg < n := by
  show i.toInt.toNat < n
  omega
theorem ic_clN {i : Int32} {A : Int} (hi : i.toInt = A) (h0 : 0 ≤ A) : (i.toNatClampNeg : Int) = A := by
  show (i.toInt.toNat : Int) = A
  omega
theorem ic_nI {n : Nat} {x : Int32} (e : x = nI n) (h : n < 2147483648) : x.toInt = n := by rw [e]; exact nI_toInt (by omega)
theorem ic_inj {x : Int32} {n : Nat} (h : x.toInt = n) (hn : n < 2147483648) : x = nI n := Int32.toInt_inj.mp (by rw [h, nI_toInt (by omega)])
theorem ic_nar (x : Int32) (h : x.toInt = 0 ∨ x.toInt = 1) : narrow .boolean (.int x) = .int x := by
  rcases h with h | h
  · have : x = 0 := Int32.toInt_inj.mp h
    subst this; rfl
  · have : x = 1 := Int32.toInt_inj.mp h
    subst this; rfl
theorem ic_narB (x : Int32) : (vp_nar .boolean x).toInt = 0 ∨ (vp_nar .boolean x).toInt = 1 := by
  have h : vp_nar .boolean x = x &&& 1 ∨ vp_nar .boolean x = 0 ∨ vp_nar .boolean x = 1 := by
    first
      | exact Or.inl rfl
      | (unfold vp_nar; simp [narrow])
  rcases h with h | h | h
  · rw [h]
    obtain ⟨j, hj, e⟩ := pk_andE x (m := 1) 1 (by decide)
    rw [e, nI_toInt (by omega)]
    omega
  · exact Or.inl (by rw [h]; rfl)
  · exact Or.inr (by rw [h]; rfl)
theorem upk {f f2 : mF} {a b : Nat} {e x : Option va_E} (F : f b = x) (ef : f2 = va_up f a e) (hne : b ≠ a) : f2 b = x := by rw [ef, va_up_ne _ _ hne]; exact F
/-! the reference's cells: h 0 is the object, h k the array in its k-th field -/
def srtM (ty j : Int) : Int := if ty = 0 then (if j < 2 then 0 else 1) else if ty = 1 then (if j < 3 then 0 else if j < 5 then 1 else 2) else (if j = 0 then 0 else if j < 3 then 2 else 1)
def fldM (ty : Int) : Int := if ty = 0 then 3 else if ty = 1 then 6 else 4
abbrev tA : Type := Int32 × Int32 × Int64 × Int32 × Int32 × Int32
def fitA (k j : Nat) (v : Int) : Prop := mostF (5 * k + j) = -1 ∨ (0 ≤ v ∧ v ≤ (mostF (5 * k + j)).toInt)
def okA (t : tA) : Prop := ∃ k : Nat, k < 18 ∧ t.1 = nI k ∧ fitA k 0 t.2.1.toInt ∧ fitA k 1 t.2.2.1.toInt ∧ fitA k 2 t.2.2.2.1.toInt ∧ fitA k 3 t.2.2.2.2.1.toInt ∧ fitA k 4 t.2.2.2.2.2.toInt
def vld (z : Nat → Nat) (k : Nat) : Prop := k < 192 ∧ k % 32 < z (k / 32)
def pNu (n : Nat) (T : Nat → Int32) (nu : Nat → Int64) : Prop := ∀ L, L < 8064 → (n ≤ L % 192 / 8 → nu L = 0) ∧ (L % 192 / 8 < n → srtM (T (L % 192 / 8)).toInt ((L % 8 : Nat) : Int) = 1 → -3 ≤ (nu L).toInt ∧ (nu L).toInt < n)
abbrev okM0 (h : Nat → Nat) (n : Nat) (e : Option va_E) : Prop := ∃ (he fe ca : Int32) (ga : Int64) (wh tm wm ac th st : Int32), e = some (.inr (6, [.int (nI n), .ref (h 1), .int he, .ref (h 3), .ref (h 4), .ref (h 5), .ref (h 6), .int fe, .ref (h 8), .ref (h 9), .ref (h 10), .ref (h 11), .ref (h 12), .ref (h 13), .ref (h 14), .ref (h 15), .int ca, .long ga, .int wh, .int tm, .ref (h 20), .ref (h 21), .int wm, .ref (h 23), .ref (h 24), .int ac, .ref (h 26), .ref (h 27), .int th, .int st])) ∧ 0 ≤ he.toInt ∧ he.toInt ≤ 40 ∧ 0 ≤ tm.toInt ∧ tm.toInt ≤ 384 ∧ 0 ≤ wm.toInt ∧ wm.toInt ≤ 192 ∧ 0 ≤ ac.toInt ∧ ac.toInt ≤ 200
abbrev okI (G : mG) (t : Nat) (N : Nat) (P : (Nat → Int32) → Prop) (e : Option va_E) : Prop := ∃ g : Nat → Int32, e = some (.inl (gk G t, N, .inl g)) ∧ P g
abbrev okJ (G : mG) (N : Nat) (P : (Nat → Int64) → Prop) (e : Option va_E) : Prop := ∃ g : Nat → Int64, e = some (.inl (gk G 1, N, .inr (.inl g))) ∧ P g
def okM (G : mG) (h : Nat → Nat) (n : Nat) (T : Nat → Int32) (z : Nat → Nat) (A : Nat → tA) (k : Nat) (e : Option va_E) : Prop :=
  match k with
  | 0 => okM0 h n e
  | 1 => okI G 0 24 (fun g => ∀ o, o < n → g o = T o) e
  | 3 => okJ G 8064 (pNu n T) e
  | 4 => okI G 0 8064 (fun g => ∀ L, L < 8064 → (g L).toInt ≤ 8) e
  | 5 => okI G 0 64512 (fun _ => True) e
  | 6 => okI G 2 24 (fun _ => True) e
  | 8 => okI G 0 192 (fun _ => True) e
  | 9 => okI G 0 6 (fun g => ∀ b, b < 6 → g b = nI (z b)) e
  | 10 => okI G 0 192 (fun g => ∀ k, vld z k → g k = (A k).1) e
  | 11 => okI G 0 192 (fun g => ∀ k, vld z k → g k = (A k).2.1) e
  | 12 => okJ G 192 (fun g => ∀ k, vld z k → g k = (A k).2.2.1) e
  | 13 => okI G 0 192 (fun g => ∀ k, vld z k → g k = (A k).2.2.2.1) e
  | 14 => okI G 0 192 (fun g => ∀ k, vld z k → g k = (A k).2.2.2.2.1) e
  | 15 => okI G 0 192 (fun g => ∀ k, vld z k → g k = (A k).2.2.2.2.2) e
  | 20 => okI G 0 400 (fun _ => True) e
  | 21 => okI G 0 400 (fun _ => True) e
  | 23 => okI G 0 192 (fun _ => True) e
  | 24 => okI G 2 24 (fun _ => True) e
  | 26 => okI G 0 4 (fun g => ∀ i, i < 4 → -3 ≤ (g i).toInt ∧ ((g i).toInt < n ∨ (n = 0 ∧ (g i).toInt = 0))) e
  | 27 => okJ G 4 (fun _ => True) e
  | _ => True
def tchOK (tm : Int32) (tl th : Nat → Int32) : Prop := (∀ i : Nat, (i : Int) < tm.toInt → 0 ≤ (tl i).toInt ∧ (tl i).toInt < 192 ∧ 0 ≤ (th i).toInt ∧ (th i).toInt < 2) ∧ ∀ i j : Nat, (i : Int) < tm.toInt → (j : Int) < tm.toInt → tl i = tl j → th i = th j → i = j
def xTch (G : mG) (h : Nat → Nat) (f : mF) : Prop := ∀ (fs : List Value) (tm : Int32) (tl th : Nat → Int32), f (h 0) = some (.inr (6, fs)) → fs[19]? = some (.int tm) → f (h 20) = some (.inl (gk G 0, 400, .inl tl)) → f (h 21) = some (.inl (gk G 0, 400, .inl th)) → tchOK tm tl th
/-- the fields that are arrays, and the object itself -/
def rM (k : Nat) : Bool := [0, 1, 3, 4, 5, 6, 8, 9, 10, 11, 12, 13, 14, 15, 20, 21, 23, 24, 26, 27].contains k
def injM (h : Nat → Nat) : Prop := ∀ i j, i < 30 → j < 30 → h i = h j → rM i = true → rM j = true → i = j
def IM (G : mG) (h : Nat → Nat) (n : Nat) (T : Nat → Int32) (z : Nat → Nat) (A : Nat → tA) (f : mF) : Prop := (∀ k, k < 30 → okM G h n T z A k (f (h k))) ∧ xTch G h f ∧ injM h ∧ n ≤ 24 ∧ (∀ b, z b ≤ 32) ∧ ∀ b, b < 6 → ∀ p, p < z b → okA (A (32 * b + p))
/-- what is not the reference's stays -/
def frM (h : Nat → Nat) (f f' : mF) : Prop := ∀ a, (∀ k, k < 30 → a ≠ h k) → f' a = f a
theorem frM.rf {h : Nat → Nat} {f : mF} : frM h f f := fun _ _ => rfl
theorem frM.trans {h : Nat → Nat} {f g k : mF} (h1 : frM h f g) (h2 : frM h g k) : frM h f k := fun a ha => (h2 a ha).trans (h1 a ha)
theorem frM.up {h : Nat → Nat} {f g g2 : mF} {e : Option va_E} (k : Nat) (h1 : frM h f g) (hk : k < 30) (eg : g2 = va_up g (h k) e) : frM h f g2 := fun a ha => by rw [eg, va_up_ne _ _ (ha k hk)]; exact h1 a ha
def fldV (f : mF) (a k : Nat) : Value := match f a with
  | some (.inr (_, fs)) => fs.getD k .null
  | _ => .null
theorem fldV_eq {f : mF} {a ci : Nat} {fs : List Value} (h : f a = some (.inr (ci, fs))) (k : Nat) : fldV f a k = fs.getD k .null := by unfold fldV; rw [h]
/-- the fields that a walk of acts keeps: writtenMany, acts, height -/
def kpM (h : Nat → Nat) (f f' : mF) : Prop := fldV f' (h 0) 22 = fldV f (h 0) 22 ∧ fldV f' (h 0) 25 = fldV f (h 0) 25 ∧ fldV f' (h 0) 2 = fldV f (h 0) 2
theorem kpM.rf {h : Nat → Nat} {f : mF} : kpM h f f := ⟨rfl, rfl, rfl⟩
theorem kpM.trans {h : Nat → Nat} {f g k : mF} (h1 : kpM h f g) (h2 : kpM h g k) : kpM h f k := ⟨h2.1.trans h1.1, h2.2.1.trans h1.2.1, h2.2.2.trans h1.2.2⟩
theorem kpM.up {h : Nat → Nat} {f g g2 : mF} {e : Option va_E} (k : Nat) (h1 : kpM h f g) (hj : injM h) (hk : k < 30) (h0 : k ≠ 0) (eg : g2 = va_up g (h k) e) (hr : rM k = true := by decide) : kpM h f g2 := by
  have hne : h 0 ≠ h k := fun q => h0 (hj 0 k (by omega) hk q rfl hr).symm
  unfold kpM fldV
  rw [eg, va_up_ne _ _ hne]
  exact h1
theorem kpM.obj {h : Nat → Nat} {f g g2 : mF} {fs fs2 : List Value} {ci c2 : Nat} (h1 : kpM h f g) (e1 : g (h 0) = some (.inr (ci, fs))) (e2 : g2 (h 0) = some (.inr (c2, fs2))) (h22 : fs2.getD 22 .null = fs.getD 22 .null) (h25 : fs2.getD 25 .null = fs.getD 25 .null) (h2 : fs2.getD 2 .null = fs.getD 2 .null) : kpM h f g2 := by
  refine ⟨?_, ?_, ?_⟩
  · rw [fldV_eq e2, h22, ← fldV_eq e1]; exact h1.1
  · rw [fldV_eq e2, h25, ← fldV_eq e1]; exact h1.2.1
  · rw [fldV_eq e2, h2, ← fldV_eq e1]; exact h1.2.2
theorem xTch.arr {G : mG} {h : Nat → Nat} {f : mF} {e : Option va_E} (hX : xTch G h f) (hj : injM h) (k : Nat) (hk : k < 30) (h0 : k ≠ 0) (h20 : k ≠ 20) (h21 : k ≠ 21) (hr : rM k = true := by decide) : xTch G h (va_up f (h k) e) := by
  intro fs tm tl th e0 et e20 e21
  rw [va_up_ne _ _ (fun q => h0 (hj 0 k (by omega) hk q rfl hr).symm)] at e0
  rw [va_up_ne _ _ (fun q => h20 (hj 20 k (by omega) hk q rfl hr).symm)] at e20
  rw [va_up_ne _ _ (fun q => h21 (hj 21 k (by omega) hk q rfl hr).symm)] at e21
  exact hX fs tm tl th e0 et e20 e21
theorem xTch.obj {G : mG} {h : Nat → Nat} {f : mF} {fs fs2 : List Value} (hX : xTch G h f) (hj : injM h) (e1 : f (h 0) = some (.inr (6, fs))) (hs : fs2[19]? = fs[19]?) : xTch G h (va_up f (h 0) (some (.inr (6, fs2)))) := by
  intro fs' tm tl th e0 et e20 e21
  rw [va_up_self] at e0
  cases e0
  rw [va_up_ne _ _ (fun q => by have := hj 20 0 (by omega) (by omega) q rfl rfl; omega)] at e20
  rw [va_up_ne _ _ (fun q => by have := hj 21 0 (by omega) (by omega) q rfl rfl; omega)] at e21
  exact hX fs tm tl th e1 (by rw [← hs]; exact et) e20 e21
theorem okM_no {G : mG} {h : Nat → Nat} {n : Nat} {T : Nat → Int32} {z : Nat → Nat} {A : Nat → tA} {e : Option va_E} : ∀ k, k < 30 → rM k = false → okM G h n T z A k e := by
  intro k hk hr
  have hc : k = 2 ∨ k = 7 ∨ k = 16 ∨ k = 17 ∨ k = 18 ∨ k = 19 ∨ k = 22 ∨ k = 25 ∨ k = 28 ∨ k = 29 := (show ∀ k, k < 30 → rM k = false → k = 2 ∨ k = 7 ∨ k = 16 ∨ k = 17 ∨ k = 18 ∨ k = 19 ∨ k = 22 ∨ k = 25 ∨ k = 28 ∨ k = 29 from by decide +kernel) k hk hr
  rcases hc with rfl | rfl | rfl | rfl | rfl | rfl | rfl | rfl | rfl | rfl <;> trivial
theorem IM.set {G : mG} {h : Nat → Nat} {n : Nat} {T : Nat → Int32} {z : Nat → Nat} {A : Nat → tA} {f f2 : mF} {e : va_E} (hI : IM G h n T z A f) (k : Nat) (hk : k < 30) (he : okM G h n T z A k (some e)) (hX : xTch G h (va_up f (h k) (some e))) (ef : f2 = va_up f (h k) (some e)) (hr : rM k = true := by decide) : IM G h n T z A f2 := by
  subst ef
  refine ⟨fun j hjj => ?_, hX, hI.2.2⟩
  by_cases hq : j = k
  · subst hq; rw [va_up_self]; exact he
  · cases hrj : rM j with
    | false => exact okM_no j hjj hrj
    | true =>
      rw [va_up_ne _ _ (fun q => hq (hI.2.2.1 j k hjj hk q hrj hr))]
      exact hI.1 j hjj
theorem IM.arr {G : mG} {h : Nat → Nat} {n : Nat} {T : Nat → Int32} {z : Nat → Nat} {A : Nat → tA} {f f2 : mF} {e : va_E} (hI : IM G h n T z A f) (k : Nat) (hk : k < 30) (h0 : k ≠ 0) (h20 : k ≠ 20) (h21 : k ≠ 21) (he : okM G h n T z A k (some e)) (ef : f2 = va_up f (h k) (some e)) (hr : rM k = true := by decide) : IM G h n T z A f2 :=
  hI.set k hk he (hI.2.1.arr hI.2.2.1 k hk h0 h20 h21 hr) ef hr
theorem IM.obj {G : mG} {h : Nat → Nat} {n : Nat} {T : Nat → Int32} {z : Nat → Nat} {A : Nat → tA} {f f2 : mF} {fs fs2 : List Value} (hI : IM G h n T z A f) (e1 : f (h 0) = some (.inr (6, fs))) (ef : f2 = va_up f (h 0) (some (.inr (6, fs2)))) (hs : fs2[19]? = fs[19]?) (he : okM0 h n (some (.inr (6, fs2)))) : IM G h n T z A f2 :=
  hI.set 0 (by omega) he (hI.2.1.obj hI.2.2.1 e1 hs) ef
theorem neM {h : Nat → Nat} (hj : injM h) {i j : Nat} (hi : i < 30) (hjj : j < 30) (hne : i ≠ j) (h1 : rM i = true := by decide) (h2 : rM j = true := by decide) : h i ≠ h j := fun q => hne (hj i j hi hjj q h1 h2)
theorem upd_all {P : Int32 → Prop} {N k : Nat} {g : Nat → Int32} {v : Int32} (hg : ∀ L, L < N → P (g L)) (hv : P v) : ∀ L, L < N → P (upd g k v L) := by
  intro L hL
  unfold upd
  split
  · exact hv
  · exact hg L hL
theorem inj_bound : ∀ (m n : Nat) (g : Nat → Nat), (∀ i, i < n → g i < m) → (∀ i j, i < n → j < n → g i = g j → i = j) → n ≤ m
  | 0, n, g, h1, _ => by
    cases n with
    | zero => exact Nat.le_refl 0
    | succ k => exact absurd (h1 0 (by omega)) (by omega)
  | m + 1, n, g, h1, h2 => by
    cases n with
    | zero => omega
    | succ k =>
      -- send the last place's value out of the way
      have key : k ≤ m := inj_bound m k (fun i => if g i = m then g k else g i) (fun i hi => by
        have a := h1 i (by omega)
        have b := h1 k (by omega)
        by_cases hm : g i = m
        · rw [if_pos hm]
          have : g k ≠ m := fun q => by
            have := h2 i k (by omega) (by omega) (by rw [hm, q])
            omega
          omega
        · rw [if_neg hm]; omega) (fun i j hi hj e => by
        by_cases hm : g i = m <;> by_cases hn : g j = m
        · exact h2 i j (by omega) (by omega) (by rw [hm, hn])
        · rw [if_pos hm, if_neg hn] at e
          have := h2 k j (by omega) (by omega) e
          omega
        · rw [if_neg hm, if_pos hn] at e
          have := h2 i k (by omega) (by omega) e
          omega
        · rw [if_neg hm, if_neg hn] at e
          exact h2 i j (by omega) (by omega) e)
      omega
theorem tch_bound {tm : Int32} {tl th : Nat → Int32} (h : tchOK tm tl th) : tm.toInt ≤ 384 := by
  rcases Int.lt_or_le tm.toInt 0 with h0 | h0
  · omega
  have := inj_bound 384 tm.toInt.toNat (fun i => (2 * (tl i).toInt + (th i).toInt).toNat) (fun i hi => by
    obtain ⟨a, b, c, d⟩ := h.1 i (by omega)
    show (2 * (tl i).toInt + (th i).toInt).toNat < 384
    omega) (fun i j hi hj e => by
    obtain ⟨a, b, c, d⟩ := h.1 i (by omega)
    obtain ⟨a2, b2, c2, d2⟩ := h.1 j (by omega)
    have e : (2 * (tl i).toInt + (th i).toInt).toNat = (2 * (tl j).toInt + (th j).toInt).toNat := e
    exact h.2 i j (by omega) (by omega) (Int32.toInt_inj.mp (by omega)) (Int32.toInt_inj.mp (by omega)))
  omega
theorem fldM_b (t : Int) : 3 ≤ fldM t ∧ fldM t ≤ 6 := by unfold fldM; (repeat' split) <;> omega
theorem pNu_put {n : Nat} {T : Nat → Int32} {nu : Nat → Int64} {i : Int32} {a o j : Int} {v : Int64} (hp : pNu n T nu) (hi : i.toInt = 192 * a + 8 * o + j) (ha : 0 ≤ a) (ha2 : a ≤ 41) (ho : 0 ≤ o) (ho2 : o < n) (hj : 0 ≤ j) (hj2 : j < 8) (hn : n ≤ 24) {on : Nat} (hon : on = o.toNat) (hv : srtM (T on).toInt j = 1 → -3 ≤ v.toInt ∧ v.toInt < n) : pNu n T (vp_updL nu i.toNatClampNeg v) := by
  have hc := ic_clN hi (by omega)
  intro L hL
  unfold vp_updL
  split
  · rename_i hq
    subst hq
    have e1 : i.toNatClampNeg % 192 / 8 = on := by omega
    have e2 : ((i.toNatClampNeg % 8 : Nat) : Int) = j := by omega
    rw [e1, e2]
    exact ⟨fun q => by omega, fun _ => hv⟩
  · exact hp L hL
theorem pNu_copy {n : Nat} {T : Nat → Int32} {nu : Nat → Int64} {La Lb : Nat} (hp : pNu n T nu) (hLa : La < 8064) (hm : La % 192 = Lb % 192) : pNu n T (vp_updL nu Lb (nu La)) := by
  intro L hL
  unfold vp_updL
  split
  · rename_i hq
    subst hq
    have e1 : L % 192 = La % 192 := hm.symm
    have e2 : L % 8 = La % 8 := by omega
    rw [e1, e2]
    exact hp La hLa
  · exact hp L hL
