def cpF (k : Nat → Nat) (i : Nat) (f : mF) : Nat → Option Nat := match f (k (5 + 8 * i + 5)) with
  | some (.inl (_, _, .inr (.inr (.inr (.inr g))))) => g
  | _ => fun _ => none
theorem cpF_eq {k : Nat → Nat} {i N : Nat} {f : mF} {cA : ClassId} {g : Nat → Option Nat} (h : f (k (5 + 8 * i + 5)) = some (.inl (cA, N, .inr (.inr (.inr (.inr g)))))) : cpF k i f = g := by unfold cpF; rw [h]
def haF (k : Nat → Nat) (i : Nat) (f : mF) : Nat → Int32 := match f (k (5 + 8 * i + 6)) with
  | some (.inl (_, _, .inl g)) => g
  | _ => fun _ => 0
theorem haF_eq {k : Nat → Nat} {i N : Nat} {f : mF} {cA : ClassId} {g : Nat → Int32} (h : f (k (5 + 8 * i + 6)) = some (.inl (cA, N, .inl g))) : haF k i f = g := by unfold haF; rw [h]
def nul (g : Nat → Option Nat) : Nat → Nat
  | 0 => 0
  | m + 1 => nul g m + (if g m = none then 1 else 0)
theorem nul_le (g : Nat → Option Nat) : ∀ m, nul g m ≤ m
  | 0 => Nat.le_refl 0
  | m + 1 => by
    have := nul_le g m
    show nul g m + (if g m = none then 1 else 0) ≤ m + 1
    split <;> omega
theorem nul_far {g : Nat → Option Nat} {o b : Nat} : ∀ m, m ≤ o → nul (va_up g o (some b)) m = nul g m
  | 0, _ => rfl
  | m + 1, h => by
    show nul (va_up g o (some b)) m + _ = nul g m + _
    rw [nul_far m (by omega), va_up_ne _ _ (by omega)]
theorem nul_up {g : Nat → Option Nat} {o b : Nat} (hg : g o = none) : ∀ m, o < m → nul (va_up g o (some b)) m + 1 = nul g m
  | 0, h => by omega
  | m + 1, h => by
    show nul (va_up g o (some b)) m + _ + 1 = nul g m + _
    by_cases ho : o = m
    · subst ho
      rw [nul_far o (Nat.le_refl _), va_up_self, hg, if_neg (by simp), if_pos rfl]
    · have := nul_up (b := b) hg m (by omega)
      rw [va_up_ne _ _ (Ne.symm ho)]
      omega
def nd (k : Nat → Nat) (i : Nat) (f : mF) (o : Nat) : Nat := if cpF k i f o = none then 1 else 0
theorem nd_1 {k : Nat → Nat} {i o : Nat} {f : mF} (h : cpF k i f o = none) : nd k i f o = 1 := by unfold nd; rw [if_pos h]
theorem nd_0 {k : Nat → Nat} {i o : Nat} {f : mF} (h : cpF k i f o ≠ none) : nd k i f o = 0 := by unfold nd; rw [if_neg h]
theorem nd_le {k : Nat → Nat} {i o : Nat} {f : mF} : nd k i f o ≤ 1 := by unfold nd; split <;> omega
/-- what a load does for the i-th Run: object o has its copy, one null less if it had none; nothing that was there is gone; handles and values stay -/
def ldP (k : Nat → Nat) (i o : Nat) (f f2 : mF) : Prop := cpF k i f2 o ≠ none ∧ nul (cpF k i f2) 24 + nd k i f o = nul (cpF k i f) 24 ∧ (∀ q, q ≠ o → cpF k i f2 q = cpF k i f q) ∧ f2 (k (5 + 8 * i + 6)) = f (k (5 + 8 * i + 6)) ∧ f2 (k (5 + 8 * i + 7)) = f (k (5 + 8 * i + 7))
theorem sh_amt : ∀ n, n < 24 → ((nI n &&& 31).toBitVec.smod 32).toNat = n := by decide +kernel
theorem sh_one : ∀ n, n < 24 → ((1 : Int32) <<< (nI n &&& 31)).toBitVec = BitVec.twoPow 32 n := by decide +kernel
theorem and_one (y : Int32) : (y &&& 1) = 1 ↔ y.toBitVec.getLsbD 0 = true := by
  have e1 : (1 : Int32).toBitVec = 1#32 := rfl
  constructor
  · intro h
    have q := congrArg (fun q : Int32 => q.toBitVec.getLsbD 0) h
    simp only [Int32.toBitVec_and, BitVec.getLsbD_and] at q
    rw [e1] at q
    simpa using q
  · intro h
    apply Int32.toBitVec_inj.mp
    apply BitVec.eq_of_getLsbD_eq
    intro i hi
    rw [Int32.toBitVec_and, BitVec.getLsbD_and, e1]
    by_cases h0 : i = 0
    · subst h0; rw [h]; rfl
    · have : (1#32).getLsbD i = false := by simp [BitVec.getLsbD_one, h0]
      rw [this]; simp
theorem btC_iff {x : Int32} {j : Nat} (hj : j < 24) : btC x j ↔ x.toBitVec.getLsbD j = true := by
  unfold btC
  rw [and_one, Int32.toBitVec_shiftRight]
  show (x.toBitVec.sshiftRight ((nI j &&& 31).toBitVec.smod 32).toNat).getLsbD 0 = true ↔ _
  rw [sh_amt j hj, BitVec.getLsbD_sshiftRight]
  have : j + 0 < 32 := by omega
  simp [this]
  intro hh
  omega
theorem btC_or {lb o : Int32} {j : Nat} (ho : 0 ≤ o.toInt ∧ o.toInt < 24) (hj : j < 24) (h : btC (lb ||| ((1 : Int32) <<< (o &&& 31))) j) : j = o.toNatClampNeg ∨ btC lb j := by
  obtain ⟨m, hm, rfl⟩ : ∃ m : Nat, m < 24 ∧ o = nI m := ⟨o.toInt.toNat, by omega, ic_inj (by omega) (by omega)⟩
  rw [btC_iff hj, Int32.toBitVec_or, BitVec.getLsbD_or, sh_one m hm, BitVec.getLsbD_twoPow] at h
  rw [btC_iff hj, nI_clamp (by omega)]
  by_cases hjm : j = m
  · exact Or.inl hjm
  · right
    have : ¬ m = j := fun e => hjm e.symm
    simpa [this] using h
theorem IC.setRunX {G : mG} {k : Nat → Nat} {rho : tR} {n : Nat} {T z : Nat → Nat} {st st2 : Nat → Bool} {f f2 : mF} (hI : IC G k rho n T z st f) {i : Nat} {fs2 : List Value} (hi : i < 3) (hst : ∀ q, q ≠ i → st2 q = st q) (ef : f2 = va_up f (k (5 + 8 * i)) (some (.inr (3, fs2)))) (he : okRun k st2 i (some (.inr (3, fs2)))) (hX : xLd G k i f2) : IC G k rho n T z st2 f2 := by
  refine ⟨fun j hj => ?_, fun a => ?_, fun q hq => ?_, fun q hq => ?_, hI.2.2.2.2⟩
  · by_cases hji : j = 5 + 8 * i
    · subst hji
      have := okC_R (G := G) (k := k) (rho := rho) (n := n) (T := T) (z := z) (st := st2) (i := i) (c := 0) hi (by omega) (e := f2 (k (5 + 8 * i)))
      rw [show 5 + 8 * i + 0 = 5 + 8 * i from rfl] at this
      rw [this, ef, va_up_self]
      exact he
    · rw [ef, va_up_ne _ _ (neC hI.2.2.2.2.1 hj (by omega) hji)]
      have hp := hI.1 j hj
      unfold okC at hp ⊢
      split at hp
      · rw [if_pos ‹_›]; exact hp
      rw [if_neg ‹_›]
      split at hp
      · rw [if_pos ‹_›]; exact hp
      rw [if_neg ‹_›]
      split at hp
      · rw [if_pos ‹_›]; exact hp
      rw [if_neg ‹_›]
      split at hp
      · rw [if_pos ‹_›]; exact hp
      rw [if_neg ‹_›]
      split at hp
      · rw [if_pos ‹_›]
        unfold okR at hp ⊢
        split at hp <;> first | exact hp | skip
        obtain ⟨lb, dn, gf, th, ta, sr, nx, q1, q2, q3⟩ := hp
        exact ⟨lb, dn, gf, th, ta, sr, nx, q1, q2, fun hs => q3 (by rw [← hst _ (by omega)]; exact hs)⟩
      rw [if_neg ‹_›]
      split at hp
      · rw [if_pos ‹_›]; exact hp
      · rw [if_neg ‹_›]; exact hp
  · by_cases ha : a = k (5 + 8 * i)
    · have h0 := hI.2.2.2.2.2.1 (5 + 8 * i) (by omega)
      rw [ha]; unfold okP; rw [h0]; trivial
    · rw [ef, va_up_ne _ _ ha]; exact hI.2.1 a
  · by_cases hqi : q = i
    · subst hqi; exact hX
    · rw [ef]; exact (hI.2.2.1 q hq).other hI.2.2.2.2.1 hq (by omega) (by omega) (by omega)
  · rw [ef]; exact (hI.2.2.2.1 q hq).other hI.2.2.2.2.1 hq (by omega) (by omega) (by omega) (by omega)
theorem xLd_mk {G : mG} {k : Nat → Nat} {i : Nat} {f : mF} {fs : List Value} {lb : Int32} {g : Nat → Option Nat} (e0 : f (k (5 + 8 * i)) = some (.inr (3, fs))) (e1 : fs[1]? = some (.int lb)) (e5 : f (k (5 + 8 * i + 5)) = some (.inl (gk G 3, 24, .inr (.inr (.inr (.inr g)))))) (h : ∀ o, o < 24 → btC lb o → g o ≠ none) : xLd G k i f := by
  intro fs' lb' g' a0 a1 a2
  rw [e0] at a0; cases a0
  rw [e1] at a1; cases a1
  rw [e5] at a2; cases a2
  exact h
theorem btC_0 (o : Nat) (ho : o < 24) : ¬ btC 0 o := by
  have : ∀ o : Fin 24, ¬ btC 0 o.val := by unfold btC; decide
  exact this ⟨o, ho⟩
/-- a new copy -/
theorem IC.setCp {G : mG} {k : Nat → Nat} {rho : tR} {n : Nat} {T z : Nat → Nat} {st : Nat → Bool} {f f2 : mF} (hI : IC G k rho n T z st f) {i o b : Nat} {g : Nat → Option Nat} (hi : i < 3) (hg : f (k (5 + 8 * i + 5)) = some (.inl (gk G 3, 24, .inr (.inr (.inr (.inr g)))))) (ef : f2 = va_up f (k (5 + 8 * i + 5)) (some (.inl (gk G 3, 24, .inr (.inr (.inr (.inr (va_up g o (some b))))))))) (ho : o < n) (hb : rho b = (1, T o)) : IC G k rho n T z st f2 := by
  refine hI.setX (j := 5 + 8 * i + 5) (by omega) ef (by
    rw [okC_R hi (by omega)]
    obtain ⟨g', e1, hp⟩ : okQ G 3 24 (pCp rho n T) (f (k (5 + 8 * i + 5))) := hI.run (c := 5) hi (by decide)
    rw [hg] at e1; cases e1
    refine ⟨_, rfl, fun q hq => ?_⟩
    by_cases hqo : q = o
    · subst hqo; rw [va_up_self]; exact Or.inr ⟨ho, b, rfl, hb⟩
    · rw [va_up_ne _ _ hqo]; exact hp q hq) (fun q hq => ?_) (fun q hq => ?_)
  · by_cases hqi : q = i
    · subst hqi
      intro fs lb g' a0 a1 a2
      rw [ef, va_up_ne _ _ (neC hI.2.2.2.2.1 (by omega) (by omega) (by omega))] at a0
      rw [ef, va_up_self] at a2
      cases a2
      intro c hc hbt
      by_cases hco : c = o
      · subst hco; rw [va_up_self]; simp
      · rw [va_up_ne _ _ hco]; exact hI.2.2.1 q hq fs lb g a0 a1 hg c hc hbt
    · rw [ef]; exact (hI.2.2.1 q hq).other hI.2.2.2.2.1 hq (by omega) (by omega) (by omega)
  · rw [ef]; exact (hI.2.2.2.1 q hq).other hI.2.2.2.2.1 hq (by omega) (by omega) (by omega) (by omega)
/-- a body that has been made gets its names -/
theorem IC.body {G : mG} {k : Nat → Nat} {rho : tR} {n : Nat} {T z : Nat → Nat} {st : Nat → Bool} {f : mF} (hI : IC G k rho n T z st f) {q ca ia t : Nat} {si ty : Int32} {g : Nat → Int64} {gi : Nat → Int32} (hty : ty = nI t) (Fq : f q = some (.inr (2, [.int ty, .ref ca, .ref ia, .int si, .null]))) (Fc : f ca = some (.inl (gk G 1, 8, .inr (.inl g)))) (Fi : f ia = some (.inl (gk G 0, 16, .inl gi))) (hg : pCl n t g) (h0 : (rho q).1 = 0) (h1 : (rho ca).1 = 0) (h2 : (rho ia).1 = 0) (k0 : ∀ j, j < 41 → q ≠ k j) (k1 : ∀ j, j < 41 → ca ≠ k j) (k2 : ∀ j, j < 41 → ia ≠ k j) : IC G k (va_up (va_up (va_up rho ca (2, t)) ia (3, 0)) q (1, t)) n T z st f := by
  have n1 : ca ≠ ia := fun e => by rw [e, Fi] at Fc; simp at Fc
  have n2 : q ≠ ca := fun e => by rw [e, Fc] at Fq; cases Fq
  have n3 : q ≠ ia := fun e => by rw [e, Fi] at Fq; cases Fq
  have s1 := hI.name (r := (2, t)) h1 k1 (show okJ G 8 (pCl n t) (f ca) from ⟨g, Fc, hg⟩)
  have s2 := s1.name (a := ia) (r := (3, 0)) (by rw [va_up_ne _ _ (Ne.symm n1)]; exact h2) k2 (show okI G 0 16 (fun _ => True) (f ia) from ⟨gi, Fi, trivial⟩)
  refine s2.name (by rw [va_up_ne _ _ n3, va_up_ne _ _ n2]; exact h0) k0 (show okB _ t q (f q) from ⟨ca, ia, si, none, by rw [Fq, hty]; rfl, ?_, ?_, fun b hb => by cases hb⟩)
  · rw [va_up_ne _ _ (Ne.symm n2), va_up_ne _ _ n1, va_up_self]
  · rw [va_up_ne _ _ (Ne.symm n3), va_up_self]
theorem pCl_new {n t : Nat} {g : Nat → Int64} (h : ∀ j : Nat, j < 8 → (sortF (8 * t + j) = 2 ∨ sortF (8 * t + j) = 3 → g j = -3)) : pCl n t g := by
  intro j hj
  refine ⟨fun hs => Or.inl (by rw [h j hj (Or.inl hs)]; rfl), fun hs => by rw [h j hj (Or.inr hs)]; decide⟩
theorem frC_none {k : Nat → Nat} {r1 r2 : tR} {f1 f2 : mF} {a : Nat} (h : frC k r1 f1 r2 f2) (h2 : f2 a = none) : f1 a = none := by
  cases hq : f1 a with
  | none => rfl
  | some e =>
    obtain ⟨⟨e2, q⟩, -⟩ := h a e hq
    rw [h2] at q
    cases q
def ndh (k : Nat → Nat) (i : Nat) (f : mF) (h : Nat) : Nat := if haF k i f h = -3 then 0 else nd k i f (haF k i f h).toNatClampNeg
theorem ndh_le {k : Nat → Nat} {i h : Nat} {f : mF} : ndh k i f h ≤ 1 := by unfold ndh; split; omega; exact nd_le
/-- what asking a handle does -/
def aspP (k : Nat → Nat) (i h : Nat) (f f2 : mF) : Prop := nul (cpF k i f2) 24 + ndh k i f h = nul (cpF k i f) 24 ∧ (∀ q : Nat, q < 24 → haF k i f h ≠ nI q → cpF k i f2 q = cpF k i f q) ∧ f2 (k (5 + 8 * i + 6)) = f (k (5 + 8 * i + 6)) ∧ f2 (k (5 + 8 * i + 7)) = f (k (5 + 8 * i + 7))
/-- the copy of the object behind handle h is there -/
def askd (k : Nat → Nat) (i : Nat) (n : Nat) (h : Nat) (f : mF) (o : Nat) : Prop := o < n ∧ haF k i f h = nI o ∧ cpF k i f o ≠ none
theorem haF_c {k : Nat → Nat} {i : Nat} {f f2 : mF} (h : f2 (k (5 + 8 * i + 6)) = f (k (5 + 8 * i + 6))) : haF k i f2 = haF k i f := by unfold haF; rw [h]
theorem cpF_c {k : Nat → Nat} {i : Nat} {f f2 : mF} (h : f2 (k (5 + 8 * i + 5)) = f (k (5 + 8 * i + 5))) : cpF k i f2 = cpF k i f := by unfold cpF; rw [h]
theorem cl_step {t : Nat} {g : Nat → Int64} {v : Int64} {A : Int} {k : Nat} (h : ∀ j : Nat, (j : Int) < A → (sortF (8 * t + j) = 2 ∨ sortF (8 * t + j) = 3 → g j = -3)) (hk : (k : Int) = A) (hv : sortF (8 * t + k) = 2 ∨ sortF (8 * t + k) = 3 → v = -3) : ∀ j : Nat, (j : Int) < A + 1 → (sortF (8 * t + j) = 2 ∨ sortF (8 * t + j) = 3 → vp_updL g k v j = -3) := by
  intro j hj hs
  unfold vp_updL
  split
  · rename_i hq; subst hq; exact hv hs
  · exact h j (by omega) hs
theorem nf_of {f fc : mF} {q q1 : Nat} {x : va_E} (hex : ∀ (a : Nat) (e : va_E), a ≠ q → f a = some e → fc a = some e) (Fq : fc q = some x) (hlt : ∀ (a : Nat) (e : va_E), fc a = some e → a < q1) : f q1 = none := by
  cases hq : f q1 with
  | none => rfl
  | some e =>
    by_cases hz : q1 = q
    · subst hz; exact absurd (hlt _ _ Fq) (Nat.lt_irrefl _)
    · exact absurd (hlt _ _ (hex _ _ hz hq)) (Nat.lt_irrefl _)
theorem frC.init {k : Nat → Nat} {r0 rho : tR} {f0 f1 f2 : mF} {q ca ia : Nat} {x y w : Nat × Nat} (h : frC k r0 f0 rho f1) (hq : f0 q = none) (hc : f1 ca = none) (hi : f1 ia = none) (hex : ∀ (a : Nat) (e : va_E), a ≠ q → f1 a = some e → f2 a = some e) : frC k r0 f0 (va_up (va_up (va_up rho ca x) ia y) q w) f2 := by
  intro a e ha
  have nq : a ≠ q := fun z => by rw [z, hq] at ha; cases ha
  obtain ⟨⟨e1, a1⟩, a2, a3⟩ := h a e ha
  have nc : a ≠ ca := fun z => by rw [z, hc] at a1; cases a1
  have ni : a ≠ ia := fun z => by rw [z, hi] at a1; cases a1
  refine ⟨⟨e1, hex a e1 nq a1⟩, ?_, fun hk h0 => hex a e nq (a3 hk h0)⟩
  rw [va_up_ne _ _ nq, va_up_ne _ _ ni, va_up_ne _ _ nc]
  exact a2
theorem ex_eq {f1 f2 : mF} {a q : Nat} {e : va_E} (hex : ∀ (a : Nat) (e : va_E), a ≠ q → f1 a = some e → f2 a = some e) (hne : a ≠ q) (F : f1 a = some e) : f2 a = f1 a := (hex a e hne F).trans F.symm
theorem va_up_nn {g : Nat → Option Nat} {o b q : Nat} (h : g q ≠ none) : va_up g o (some b) q ≠ none := by
  by_cases hq : q = o
  · subst hq; rw [va_up_self]; simp
  · rw [va_up_ne _ _ hq]; exact h
theorem aspP.kt {k : Nat → Nat} {i h : Nat} {f f1 f2 : mF} (ha : aspP k i h f f1) (hk : kpT k i f1 f2) : aspP k i h f f2 := by
  obtain ⟨a1, a2, a3, a4⟩ := ha
  have e5 := cpF_c (hk 5 (by decide) (by decide))
  refine ⟨by rw [e5]; exact a1, fun q hq hn => by rw [e5]; exact a2 q hq hn, (hk 6 (by decide) (by decide)).trans a3, (hk 7 (by decide) (by decide)).trans a4⟩
theorem askd.kt {k : Nat → Nat} {i n h o : Nat} {f f2 : mF} (ha : askd k i n h f o) (hk : kpT k i f f2) : askd k i n h f2 o := ⟨ha.1, by rw [haF_c (hk 6 (by decide) (by decide))]; exact ha.2.1, by rw [cpF_c (hk 5 (by decide) (by decide))]; exact ha.2.2⟩
theorem ndh_neg {k : Nat → Nat} {i h : Nat} {f : mF} (e : haF k i f h = -3) : ndh k i f h = 0 := by unfold ndh; rw [if_pos e]
theorem ndh_pos {k : Nat → Nat} {i h : Nat} {f : mF} {x : Int32} (e : haF k i f h = x) (hx : ¬ x = -3) : ndh k i f h = nd k i f x.toNatClampNeg := by unfold ndh; rw [e, if_neg hx]
