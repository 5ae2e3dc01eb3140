/-! the class's cells: k j the fixed ones (0 the object, 1 objects, 2 behaviours, 3 writtenLeaves, 4 writeCounts, 5 + 8 i + c the c-th cell of the i-th Run, 29 + 2 b the b-th Behaviour, 30 + 2 b its acts); rho a says what the cell a of the pool is: (1, t) a Body of type t, (2, t) its cells, (3, 0) its items, (4, 0) an Act -/
abbrev tR : Type := Nat → Nat × Nat
def pCl (n t : Nat) (g : Nat → Int64) : Prop := ∀ j, j < 8 → (sortF (8 * t + j) = 2 → (g j).toInt = -3 ∨ (0 ≤ (g j).toInt ∧ (g j).toInt < n)) ∧ (sortF (8 * t + j) = 3 → (g j).toInt ≤ 8)
abbrev okQ (G : mG) (t N : Nat) (P : (Nat → Option Nat) → Prop) (e : Option va_E) : Prop := ∃ g : Nat → Option Nat, e = some (.inl (gk G t, N, .inr (.inr (.inr (.inr g))))) ∧ P g
abbrev okLS (k : Nat → Nat) (n : Nat) (e : Option va_E) : Prop := ∃ hn cc fc cb wn vs : Int32, e = some (.inr (5, [.ref (k 1), .int (nI n), .int hn, .ref (k 2), .ref (k 5), .ref (k 13), .ref (k 21), .int cc, .int fc, .int cb, .ref (k 3), .int wn, .ref (k 4), .int vs])) ∧ 0 ≤ wn.toInt ∧ wn.toInt ≤ 192
abbrev okRun (k : Nat → Nat) (st : Nat → Bool) (i : Nat) (e : Option va_E) : Prop := ∃ (lb dn : Int32) (gf : Int64) (th ta : Int32) (sr : Option Nat) (nx : Int32), e = some (.inr (3, [.ref (k (5 + 8 * i + 1)), .int lb, .int dn, .long gf, .int th, .int ta, va_rf sr, .ref (k (5 + 8 * i + 5)), .ref (k (5 + 8 * i + 6)), .ref (k (5 + 8 * i + 7)), .int nx])) ∧ (sr = none ∨ sr = some (k 1)) ∧ (st i = true → sr = some (k 1))
abbrev okTr (k : Nat → Nat) (i : Nat) (e : Option va_E) : Prop := ∃ ct cg : Int32, e = some (.inr (4, [.ref (k (5 + 8 * i + 2)), .int ct, .int cg, .ref (k (5 + 8 * i + 3)), .ref (k (5 + 8 * i + 4))])) ∧ 0 ≤ ct.toInt ∧ ct.toInt ≤ 384
abbrev okBeh (k : Nat → Nat) (z : Nat → Nat) (b : Nat) (e : Option va_E) : Prop := e = some (.inr (1, [.ref (k (29 + 2 * b + 1)), .int (nI (z b))]))
def pCp (rho : tR) (n : Nat) (T : Nat → Nat) (g : Nat → Option Nat) : Prop := ∀ o, o < 24 → g o = none ∨ (o < n ∧ ∃ b, g o = some b ∧ rho b = (1, T o))
def pHa (n : Nat) (g : Nat → Int32) : Prop := ∀ j, j < 4 → (g j).toInt = -3 ∨ (0 ≤ (g j).toInt ∧ ((g j).toInt < n ∨ (n = 0 ∧ (g j).toInt = 0)))
def okR (G : mG) (k : Nat → Nat) (rho : tR) (n : Nat) (T : Nat → Nat) (st : Nat → Bool) (i c : Nat) (e : Option va_E) : Prop := match c with
  | 0 => okRun k st i e
  | 1 => okTr k i e
  | 2 => okI G 0 384 (fun _ => True) e
  | 3 => okI G 0 24 (fun _ => True) e
  | 4 => okI G 0 24 (fun _ => True) e
  | 5 => okQ G 3 24 (pCp rho n T) e
  | 6 => okI G 0 4 (pHa n) e
  | _ => okJ G 4 (fun _ => True) e
def okC (G : mG) (k : Nat → Nat) (rho : tR) (n : Nat) (T z : Nat → Nat) (st : Nat → Bool) (j : Nat) (e : Option va_E) : Prop :=
  if j = 0 then okLS k n e else if j = 1 then okQ G 3 24 (fun g => ∀ o, o < n → ∃ b, g o = some b ∧ rho b = (1, T o)) e else if j = 2 then okQ G 4 6 (fun g => ∀ b, b < 6 → g b = some (k (29 + 2 * b))) e else if j < 5 then okI G 0 192 (fun _ => True) e
  else if j < 29 then okR G k rho n T st ((j - 5) / 8) ((j - 5) % 8) e else if (j - 29) % 2 = 0 then okBeh k z ((j - 29) / 2) e else okQ G 5 32 (fun g => ∀ i, i < 32 → g i = none ∨ ∃ a, g i = some a ∧ rho a = (4, 0)) e
def okB (rho : tR) (t a : Nat) (e : Option va_E) : Prop := ∃ (ca ia : Nat) (si : Int32) (bf : Option Nat), e = some (.inr (2, [.int (nI t), .ref ca, .ref ia, .int si, va_rf bf])) ∧ rho ca = (2, t) ∧ rho ia = (3, 0) ∧ (∀ b, bf = some b → rho b = (1, t) ∧ b < a)
def okAc (e : Option va_E) : Prop := ∃ (kd a : Int32) (b : Int64) (c d e2 : Int32), e = some (.inr (0, [.int kd, .int a, .long b, .int c, .int d, .int e2])) ∧ okA (kd, a, b, c, d, e2)
def okP (G : mG) (rho : tR) (n : Nat) (r : Nat × Nat) (a : Nat) (e : Option va_E) : Prop := match r.1 with
  | 0 => True
  | 1 => okB rho r.2 a e
  | 2 => okJ G 8 (pCl n r.2) e
  | 3 => okI G 0 16 (fun _ => True) e
  | _ => okAc e
def btC (lb : Int32) (o : Nat) : Prop := ((lb >>> (nI o &&& 31)) &&& 1) = 1
def xLd (G : mG) (k : Nat → Nat) (i : Nat) (f : mF) : Prop := ∀ (fs : List Value) (lb : Int32) (g : Nat → Option Nat), f (k (5 + 8 * i)) = some (.inr (3, fs)) → fs[1]? = some (.int lb) → f (k (5 + 8 * i + 5)) = some (.inl (gk G 3, 24, .inr (.inr (.inr (.inr g))))) → ∀ o, o < 24 → btC lb o → g o ≠ none
def pc8 (x : Int32) : Nat := (x.toBitVec.getLsbD 0).toNat + (x.toBitVec.getLsbD 1).toNat + (x.toBitVec.getLsbD 2).toNat + (x.toBitVec.getLsbD 3).toNat + (x.toBitVec.getLsbD 4).toNat + (x.toBitVec.getLsbD 5).toNat + (x.toBitVec.getLsbD 6).toNat + (x.toBitVec.getLsbD 7).toNat
def pcs (r : Nat → Int32) : Nat → Nat
  | 0 => 0
  | o + 1 => pcs r o + pc8 (r o)
def xTr (G : mG) (k : Nat → Nat) (i : Nat) (f : mF) : Prop := ∀ (fs : List Value) (ct : Int32) (r q : Nat → Int32), f (k (5 + 8 * i + 1)) = some (.inr (4, fs)) → fs[1]? = some (.int ct) → f (k (5 + 8 * i + 3)) = some (.inl (gk G 0, 24, .inl r)) → f (k (5 + 8 * i + 4)) = some (.inl (gk G 0, 24, .inl q)) → ct.toInt ≤ pcs r 24 + pcs q 24
def injC (k : Nat → Nat) : Prop := ∀ i j, i < 41 → j < 41 → k i = k j → i = j
def IC (G : mG) (k : Nat → Nat) (rho : tR) (n : Nat) (T z : Nat → Nat) (st : Nat → Bool) (f : mF) : Prop := (∀ j, j < 41 → okC G k rho n T z st j (f (k j))) ∧ (∀ a, okP G rho n (rho a) a (f a)) ∧ (∀ i, i < 3 → xLd G k i f) ∧ (∀ i, i < 3 → xTr G k i f) ∧ injC k ∧ (∀ j, j < 41 → (rho (k j)).1 = 0) ∧ n ≤ 24 ∧ (∀ o, T o < 3) ∧ ∀ b, z b ≤ 32
section CI
variable {G : mG} {k : Nat → Nat} {rho : tR} {n : Nat} {T z : Nat → Nat} {st : Nat → Bool} {f f2 : mF}
theorem okC_R {i c : Nat} (hi : i < 3) (hc : c < 8) {e : Option va_E} : okC G k rho n T z st (5 + 8 * i + c) e = okR G k rho n T st i c e := by
  unfold okC
  rw [if_neg (by omega), if_neg (by omega), if_neg (by omega), if_neg (by omega), if_pos (by omega), show (5 + 8 * i + c - 5) / 8 = i by omega, show (5 + 8 * i + c - 5) % 8 = c by omega]
theorem okC_B {b : Nat} {e : Option va_E} : okC G k rho n T z st (29 + 2 * b) e = okBeh k z b e := by
  unfold okC
  rw [if_neg (by omega), if_neg (by omega), if_neg (by omega), if_neg (by omega), if_neg (by omega), if_pos (by omega), show (29 + 2 * b - 29) / 2 = b by omega]
theorem okC_A {b : Nat} {e : Option va_E} : okC G k rho n T z st (29 + 2 * b + 1) e = okQ G 5 32 (fun g => ∀ i, i < 32 → g i = none ∨ ∃ a, g i = some a ∧ rho a = (4, 0)) e := by
  unfold okC
  rw [if_neg (by omega), if_neg (by omega), if_neg (by omega), if_neg (by omega), if_neg (by omega), if_neg (by omega)]
theorem okC_S {j : Nat} (h1 : 2 < j) (h2 : j < 5) {e : Option va_E} : okC G k rho n T z st j e = okI G 0 192 (fun _ => True) e := by
  unfold okC
  rw [if_neg (by omega), if_neg (by omega), if_neg (by omega), if_pos (by omega)]
theorem IC.run (hI : IC G k rho n T z st f) {i c : Nat} (hi : i < 3) (hc : c < 8) : okR G k rho n T st i c (f (k (5 + 8 * i + c))) := by
  have h := hI.1 (5 + 8 * i + c) (by omega)
  rw [okC_R hi hc] at h
  exact h
theorem IC.beh (hI : IC G k rho n T z st f) {b : Nat} (hb : b < 6) : okBeh k z b (f (k (29 + 2 * b))) := by
  have h := hI.1 (29 + 2 * b) (by omega)
  rw [okC_B] at h
  exact h
theorem IC.acts (hI : IC G k rho n T z st f) {b : Nat} (hb : b < 6) : okQ G 5 32 (fun g => ∀ i, i < 32 → g i = none ∨ ∃ a, g i = some a ∧ rho a = (4, 0)) (f (k (29 + 2 * b + 1))) := by
  have h := hI.1 (29 + 2 * b + 1) (by omega)
  rw [okC_A] at h
  exact h
theorem IC.ls (hI : IC G k rho n T z st f) : okLS k n (f (k 0)) := hI.1 0 (by omega)
theorem IC.objs (hI : IC G k rho n T z st f) : okQ G 3 24 (fun g => ∀ o, o < n → ∃ b, g o = some b ∧ rho b = (1, T o)) (f (k 1)) := hI.1 1 (by omega)
theorem IC.behs (hI : IC G k rho n T z st f) : okQ G 4 6 (fun g => ∀ b, b < 6 → g b = some (k (29 + 2 * b))) (f (k 2)) := hI.1 2 (by omega)
theorem IC.plain (hI : IC G k rho n T z st f) {j : Nat} (h1 : 2 < j) (h2 : j < 5) : okI G 0 192 (fun _ => True) (f (k j)) := by
  have h := hI.1 j (by omega)
  rw [okC_S h1 h2] at h
  exact h
theorem IC.pool (hI : IC G k rho n T z st f) {a : Nat} {r : Nat × Nat} (h : rho a = r) : okP G rho n r a (f a) := by
  have q := hI.2.1 a
  rw [h] at q
  exact q
theorem IC.nk (hI : IC G k rho n T z st f) {a j : Nat} (hj : j < 41) (h : (rho a).1 ≠ 0) : a ≠ k j := fun q => h (by rw [q]; exact hI.2.2.2.2.2.1 j hj)
theorem neC (hj : injC k) {i j : Nat} (hi : i < 41) (hjj : j < 41) (hne : i ≠ j) : k i ≠ k j := fun q => hne (hj i j hi hjj q)
theorem xLd.other {i j : Nat} {e : Option va_E} (hX : xLd G k i f) (hj : injC k) (hi : i < 3) (hjj : j < 41) (h0 : j ≠ 5 + 8 * i) (h5 : j ≠ 5 + 8 * i + 5) : xLd G k i (va_up f (k j) e) := by
  intro fs lb g e0 e1 e2
  rw [va_up_ne _ _ (neC hj (by omega) hjj (Ne.symm h0))] at e0
  rw [va_up_ne _ _ (neC hj (by omega) hjj (Ne.symm h5))] at e2
  exact hX fs lb g e0 e1 e2
theorem xTr.other {i j : Nat} {e : Option va_E} (hX : xTr G k i f) (hj : injC k) (hi : i < 3) (hjj : j < 41) (h0 : j ≠ 5 + 8 * i + 1) (h3 : j ≠ 5 + 8 * i + 3) (h4 : j ≠ 5 + 8 * i + 4) : xTr G k i (va_up f (k j) e) := by
  intro fs ct r q e0 e1 e2 e3
  rw [va_up_ne _ _ (neC hj (by omega) hjj (Ne.symm h0))] at e0
  rw [va_up_ne _ _ (neC hj (by omega) hjj (Ne.symm h3))] at e2
  rw [va_up_ne _ _ (neC hj (by omega) hjj (Ne.symm h4))] at e3
  exact hX fs ct r q e0 e1 e2 e3
theorem xLd.out {i a : Nat} {e : Option va_E} (hX : xLd G k i f) (hi : i < 3) (ha : ∀ j, j < 41 → a ≠ k j) : xLd G k i (va_up f a e) := by
  intro fs lb g e0 e1 e2
  rw [va_up_ne _ _ (Ne.symm (ha _ (by omega)))] at e0 e2
  exact hX fs lb g e0 e1 e2
theorem xTr.out {i a : Nat} {e : Option va_E} (hX : xTr G k i f) (hi : i < 3) (ha : ∀ j, j < 41 → a ≠ k j) : xTr G k i (va_up f a e) := by
  intro fs ct r q e0 e1 e2 e3
  rw [va_up_ne _ _ (Ne.symm (ha _ (by omega)))] at e0 e2 e3
  exact hX fs ct r q e0 e1 e2 e3
/-- a fixed cell gets new contents -/
theorem IC.setX (hI : IC G k rho n T z st f) {j : Nat} {e : va_E} (hj : j < 41) (ef : f2 = va_up f (k j) (some e)) (he : okC G k rho n T z st j (some e)) (h1 : ∀ i, i < 3 → xLd G k i f2) (h2 : ∀ i, i < 3 → xTr G k i f2) : IC G k rho n T z st f2 := by
  refine ⟨fun q hq => ?_, fun a => ?_, h1, h2, hI.2.2.2.2⟩
  · by_cases hqj : q = j
    · subst hqj; rw [ef, va_up_self]; exact he
    · rw [ef, va_up_ne _ _ (neC hI.2.2.2.2.1 hq hj hqj)]; exact hI.1 q hq
  · by_cases ha : a = k j
    · have h0 := hI.2.2.2.2.2.1 j hj
      rw [ha]
      unfold okP
      rw [h0]
      trivial
    · rw [ef, va_up_ne _ _ ha]; exact hI.2.1 a
theorem IC.set (hI : IC G k rho n T z st f) {j : Nat} {e : va_E} (hj : j < 41) (ef : f2 = va_up f (k j) (some e)) (hn : ∀ i, i < 3 → j ≠ 5 + 8 * i ∧ j ≠ 5 + 8 * i + 5 ∧ j ≠ 5 + 8 * i + 1 ∧ j ≠ 5 + 8 * i + 3 ∧ j ≠ 5 + 8 * i + 4) (he : okC G k rho n T z st j (some e)) : IC G k rho n T z st f2 :=
  hI.setX hj ef he (fun i hi => by rw [ef]; exact (hI.2.2.1 i hi).other hI.2.2.2.2.1 hi hj (hn i hi).1 (hn i hi).2.1) (fun i hi => by rw [ef]; exact (hI.2.2.2.1 i hi).other hI.2.2.2.2.1 hi hj (hn i hi).2.2.1 (hn i hi).2.2.2.1 (hn i hi).2.2.2.2)
/-- a Run's own cell: its loadedBits stay -/
theorem IC.setRun (hI : IC G k rho n T z st f) {i : Nat} {fs fs2 : List Value} (hi : i < 3) (e1 : f (k (5 + 8 * i)) = some (.inr (3, fs))) (ef : f2 = va_up f (k (5 + 8 * i)) (some (.inr (3, fs2)))) (hs : fs2[1]? = fs[1]?) (he : okRun k st i (some (.inr (3, fs2)))) : IC G k rho n T z st f2 := by
  refine hI.setX (j := 5 + 8 * i) (by omega) ef (by have := okC_R (G := G) (k := k) (rho := rho) (n := n) (T := T) (z := z) (st := st) (i := i) (c := 0) hi (by omega) (e := some (.inr (3, fs2))); rw [show 5 + 8 * i + 0 = 5 + 8 * i from rfl] at this; rw [this]; exact he) (fun q hq => ?_) (fun q hq => ?_)
  · by_cases hqi : q = i
    · subst hqi
      intro gs lb g a0 a1 a2
      rw [ef, va_up_self] at a0
      cases a0
      rw [ef, va_up_ne _ _ (neC hI.2.2.2.2.1 (by omega) (by omega) (by omega))] at a2
      exact hI.2.2.1 q hq fs lb g e1 (by rw [← hs]; exact a1) a2
    · rw [ef]; exact (hI.2.2.1 q hq).other hI.2.2.2.2.1 hq (by omega) (by omega) (by omega)
  · rw [ef]; exact (hI.2.2.2.1 q hq).other hI.2.2.2.2.1 hq (by omega) (by omega) (by omega) (by omega)
/-- a cell of the pool gets new contents -/
theorem IC.setP (hI : IC G k rho n T z st f) {a : Nat} {r : Nat × Nat} {e : va_E} (hr : rho a = r) (h0 : r.1 ≠ 0) (ef : f2 = va_up f a (some e)) (he : okP G rho n r a (some e)) : IC G k rho n T z st f2 := by
  have hk : ∀ j, j < 41 → a ≠ k j := fun j hj => hI.nk hj (by rw [hr]; exact h0)
  refine ⟨fun q hq => ?_, fun b => ?_, fun i hi => by rw [ef]; exact (hI.2.2.1 i hi).out hi hk, fun i hi => by rw [ef]; exact (hI.2.2.2.1 i hi).out hi hk, hI.2.2.2.2⟩
  · rw [ef, va_up_ne _ _ (Ne.symm (hk q hq))]; exact hI.1 q hq
  · by_cases hb : b = a
    · subst hb; rw [ef, va_up_self, hr]; exact he
    · rw [ef, va_up_ne _ _ hb]; exact hI.2.1 b
/-- a cell that nobody knows yet gets contents (a new one, or one that is being made) -/
theorem IC.setU (hI : IC G k rho n T z st f) {a : Nat} {e : Option va_E} (h0 : (rho a).1 = 0) (hk : ∀ j, j < 41 → a ≠ k j) (ef : f2 = va_up f a e) : IC G k rho n T z st f2 := by
  refine ⟨fun q hq => ?_, fun b => ?_, fun i hi => by rw [ef]; exact (hI.2.2.1 i hi).out hi hk, fun i hi => by rw [ef]; exact (hI.2.2.2.1 i hi).out hi hk, hI.2.2.2.2⟩
  · rw [ef, va_up_ne _ _ (Ne.symm (hk q hq))]; exact hI.1 q hq
  · by_cases hb : b = a
    · subst hb
      unfold okP
      rw [h0]
      trivial
    · rw [ef, va_up_ne _ _ hb]; exact hI.2.1 b
theorem IC.fresh (hI : IC G k rho n T z st f) {a : Nat} (h : f a = none) : (rho a).1 = 0 ∧ ∀ j, j < 41 → a ≠ k j := by
  refine ⟨?_, fun j hj q => ?_⟩
  · have hp := hI.2.1 a
    unfold okP at hp
    rw [h] at hp
    split at hp
    · assumption
    · obtain ⟨_, _, _, _, q, -⟩ := hp; cases q
    · obtain ⟨_, q, -⟩ := hp; cases q
    · obtain ⟨_, q, -⟩ := hp; cases q
    · obtain ⟨_, _, _, _, _, _, q, -⟩ := hp; cases q
  · have hp := hI.1 j hj
    rw [← q, h] at hp
    unfold okC okR at hp
    (repeat' split at hp) <;> simp [okLS, okQ, okI, okJ, okRun, okTr, okBeh] at hp
/-- a cell gets its name -/
theorem IC.name (hI : IC G k rho n T z st f) {a : Nat} {r : Nat × Nat} (h0 : (rho a).1 = 0) (hk : ∀ j, j < 41 → a ≠ k j) (he : okP G (va_up rho a r) n r a (f a)) : IC G k (va_up rho a r) n T z st f := by
  have mono : ∀ {b : Nat} {q : Nat × Nat}, q.1 ≠ 0 → rho b = q → va_up rho a r b = q := by
    intro b q hq hb
    rw [va_up_ne _ _ (fun e => by subst e; rw [hb] at h0; exact hq h0)]
    exact hb
  refine ⟨fun j hj => ?_, fun b => ?_, hI.2.2.1, hI.2.2.2.1, hI.2.2.2.2.1, fun j hj => ?_, hI.2.2.2.2.2.2⟩
  · have hp := hI.1 j hj
    unfold okC at hp ⊢
    split at hp
    · rw [if_pos ‹_›]; exact hp
    rw [if_neg ‹_›]
    split at hp
    · rw [if_pos ‹_›]
      obtain ⟨g, e1, hg⟩ := hp
      exact ⟨g, e1, fun o ho => by obtain ⟨b, q1, q2⟩ := hg o ho; exact ⟨b, q1, mono (by simp) q2⟩⟩
    rw [if_neg ‹_›]
    split at hp
    · rw [if_pos ‹_›]; exact hp
    rw [if_neg ‹_›]
    split at hp
    · rw [if_pos ‹_›]; exact hp
    rw [if_neg ‹_›]
    split at hp
    · rw [if_pos ‹_›]
      unfold okR at hp ⊢
      split at hp <;> first | exact hp | skip
      obtain ⟨g, e1, hg⟩ := hp
      exact ⟨g, e1, fun o ho => by
        rcases hg o ho with q | ⟨q, b, q1, q2⟩
        · exact Or.inl q
        · exact Or.inr ⟨q, b, q1, mono (by simp) q2⟩⟩
    rw [if_neg ‹_›]
    split at hp
    · rw [if_pos ‹_›]; exact hp
    rw [if_neg ‹_›]
    obtain ⟨g, e1, hg⟩ := hp
    exact ⟨g, e1, fun i hi => by
      rcases hg i hi with q | ⟨b, q1, q2⟩
      · exact Or.inl q
      · exact Or.inr ⟨b, q1, mono (by simp) q2⟩⟩
  · by_cases hb : b = a
    · subst hb; rw [va_up_self]; exact he
    · rw [va_up_ne _ _ hb]
      have hp := hI.2.1 b
      unfold okP at hp ⊢
      split at hp
      · trivial
      · obtain ⟨ca, ia, si, bf, q1, q2, q3, q4⟩ := hp
        exact ⟨ca, ia, si, bf, q1, mono (by simp) q2, mono (by simp) q3, fun c hc => ⟨mono (by simp) (q4 c hc).1, (q4 c hc).2⟩⟩
      · exact hp
      · exact hp
      · exact hp
  · rw [va_up_ne _ _ (Ne.symm (hk j hj))]; exact hI.2.2.2.2.2.1 j hj
/-- what is not the class's stays; what has a name keeps it -/
def frC (k : Nat → Nat) (rho : tR) (f : mF) (rho2 : tR) (f2 : mF) : Prop := ∀ (a : Nat) (e : va_E), f a = some e → (∃ e2, f2 a = some e2) ∧ rho2 a = rho a ∧ ((∀ j, j < 41 → a ≠ k j) → ((rho a).1 = 0 ∨ (rho a).1 = 4) → f2 a = some e)
theorem frC.rf {k : Nat → Nat} {rho : tR} {f : mF} : frC k rho f rho f := fun a e h => ⟨⟨e, h⟩, rfl, fun _ _ => h⟩
theorem frC.trans {k : Nat → Nat} {r1 r2 r3 : tR} {f1 f2 f3 : mF} (h1 : frC k r1 f1 r2 f2) (h2 : frC k r2 f2 r3 f3) : frC k r1 f1 r3 f3 := by
  intro a e h
  obtain ⟨⟨e2, a1⟩, a2, a3⟩ := h1 a e h
  obtain ⟨b1, b2, b3⟩ := h2 a e2 a1
  refine ⟨b1, b2.trans a2, fun hk h0 => ?_⟩
  have c1 := a3 hk h0
  exact (h2 a e c1).2.2 hk (by rw [a2]; exact h0)
theorem frC.upK {k : Nat → Nat} {r1 r2 : tR} {f1 f2 f3 : mF} {j : Nat} {x : va_E} (h : frC k r1 f1 r2 f2) (hj : j < 41) (ef : f3 = va_up f2 (k j) (some x)) : frC k r1 f1 r2 f3 := by
  refine h.trans fun a e ha => ?_
  by_cases hq : a = k j
  · exact ⟨⟨x, by rw [ef, hq, va_up_self]⟩, rfl, fun hk => absurd hq (hk j hj)⟩
  · have : f3 a = some e := by rw [ef, va_up_ne _ _ hq]; exact ha
    exact ⟨⟨e, this⟩, rfl, fun _ _ => this⟩
theorem frC.upP {k : Nat → Nat} {r1 r2 : tR} {f1 f2 f3 : mF} {b : Nat} {x : va_E} (h : frC k r1 f1 r2 f2) (h0 : (r2 b).1 ≠ 0 ∧ (r2 b).1 ≠ 4) (ef : f3 = va_up f2 b (some x)) : frC k r1 f1 r2 f3 := by
  refine h.trans fun a e ha => ?_
  by_cases hq : a = b
  · exact ⟨⟨x, by rw [ef, hq, va_up_self]⟩, rfl, fun _ hz => by rw [hq] at hz; exact absurd hz (fun z => z.elim h0.1 h0.2)⟩
  · have : f3 a = some e := by rw [ef, va_up_ne _ _ hq]; exact ha
    exact ⟨⟨e, this⟩, rfl, fun _ _ => this⟩
theorem frC.fresh {k : Nat → Nat} {r1 r2 : tR} {f1 f2 f3 : mF} {b : Nat} {x : Option va_E} (h : frC k r1 f1 r2 f2) (h0 : f1 b = none) (ef : f3 = va_up f2 b x) : frC k r1 f1 r2 f3 := by
  intro a e ha
  have hq : a ≠ b := fun q => by rw [q, h0] at ha; cases ha
  obtain ⟨⟨e2, a1⟩, a2, a3⟩ := h a e ha
  exact ⟨⟨e2, by rw [ef, va_up_ne _ _ hq]; exact a1⟩, a2, fun hk hz => by rw [ef, va_up_ne _ _ hq]; exact a3 hk hz⟩
theorem frC.name {k : Nat → Nat} {r1 r2 : tR} {f1 f2 : mF} {b : Nat} {r : Nat × Nat} (h : frC k r1 f1 r2 f2) (h0 : f1 b = none) : frC k r1 f1 (va_up r2 b r) f2 := by
  intro a e ha
  have hq : a ≠ b := fun q => by rw [q, h0] at ha; cases ha
  obtain ⟨a1, a2, a3⟩ := h a e ha
  exact ⟨a1, by rw [va_up_ne _ _ hq]; exact a2, a3⟩
end CI
