/-! the pure picture of a call: the bodies as it sees them, what is loaded, the handles, the values, what is touched (twice the leaf, one more if changed), the gift -/
abbrev tB : Type := (Nat → Int64) × (Nat → Int32)
abbrev tS : Type := (Nat → tB) × (Nat → Bool) × (Nat → Int32) × (Nat → Int64) × List Nat × Int64
abbrev bdS (s : tS) : Nat → tB := s.1
abbrev ldS (s : tS) : Nat → Bool := s.2.1
abbrev haS (s : tS) : Nat → Int32 := s.2.2.1
abbrev vaS (s : tS) : Nat → Int64 := s.2.2.2.1
abbrev trS (s : tS) : List Nat := s.2.2.2.2.1
abbrev gfS (s : tS) : Int64 := s.2.2.2.2.2
def tch (c : Nat) (l : List Nat) : List Nat := if c ∈ l then l else l ++ [c]
def sBd (s : tS) (o : Nat) (b : tB) : tS := (va_up (bdS s) o b, ldS s, haS s, vaS s, trS s, gfS s)
def sLd (s : tS) (o : Nat) : tS := (bdS s, va_up (ldS s) o true, haS s, vaS s, trS s, gfS s)
def sHa (s : tS) (x : Nat) (v : Int32) : tS := (bdS s, ldS s, va_up (haS s) x v, vaS s, trS s, gfS s)
def sVa (s : tS) (x : Nat) (v : Int64) : tS := (bdS s, ldS s, haS s, va_up (vaS s) x v, trS s, gfS s)
def sTc (s : tS) (c : Nat) : tS := (bdS s, ldS s, haS s, vaS s, tch c (trS s), gfS s)
def sGf (s : tS) (v : Int64) : tS := (bdS s, ldS s, haS s, vaS s, trS s, v)
def srt (t j : Nat) : Nat := (sortF (8 * t + j)).toNatClampNeg
def plc (j i : Nat) : Nat := (if j = 2 then 8 else 0) + i
def hob (s : tS) (hd : Nat) : Nat := (haS s hd).toNatClampNeg
/-- a handle is asked for a field of a sort: the throw, or 0 -/
def ask (T : Nat → Nat) (s : tS) (hd j st : Nat) : Nat × tS :=
  if haS s hd = -3 then (1, s) else (if srt (T (hob s hd)) j = 0 then 3 else if srt (T (hob s hd)) j = st then 0 else 2, sLd s (hob s hd))
def thn (r : Nat × tS) (k : tS → Nat × tS) : Nat × tS := if r.1 = 0 then k r.2 else r
def rdL (s : tS) (hd j : Nat) : tS := sTc s (2 * (8 * hob s hd + j))
def chL (s : tS) (hd j : Nat) : tS := sTc s (2 * (8 * hob s hd + j) + 1)
def setC (b : tB) (j : Nat) (v : Int64) : tB := (va_up b.1 j v, b.2)
def setM (b : tB) (p : Nat) (v : Int32) : tB := (b.1, va_up b.2 p v)
def renB (b : tB) (j : Nat) (v : Int64) : tB := (va_up b.1 j v, fun p => if plc j 0 ≤ p ∧ p < plc j 0 + 8 then 0 else b.2 p)
def cpyM (b1 b2 : tB) (j1 j2 m : Nat) : tB := (b2.1, va_cpy b1.2 b2.2 (plc j1 0) (plc j2 0) m)
def iRf (b : tB) (j : Nat) (v : Int64) : Nat := if b.1 j = -3 then 1 else if 0 ≤ v.toInt ∧ v.toInt < (b.1 j).toInt then 0 else 3
def pGet (T : Nat → Nat) (s : tS) (x hd j : Nat) : Nat × tS := thn (ask T s hd j 1) (fun s1 => (0, sVa (rdL s1 hd j) x ((bdS s1 (hob s1 hd)).1 j)))
def pFol (T : Nat → Nat) (s : tS) (x hd j : Nat) : Nat × tS := thn (ask T s hd j 2) (fun s1 => (0, sHa (rdL s1 hd j) x ((bdS s1 (hob s1 hd)).1 j).toInt32))
def pPut (T : Nat → Nat) (s : tS) (hd j st : Nat) (v : Int64) : Nat × tS := thn (ask T s hd j st) (fun s1 => (0, sBd (chL s1 hd j) (hob s1 hd) (setC (bdS s1 (hob s1 hd)) j v)))
def pItm (T : Nat → Nat) (s : tS) (x hd j y : Nat) : Nat × tS := thn (ask T s hd j 3) (fun s1 => thn (iRf (bdS s1 (hob s1 hd)) j (vaS s1 y), rdL s1 hd j) (fun s2 => (0, sVa s2 x ((bdS s2 (hob s2 hd)).2 (plc j (vaS s2 y).toInt.toNat)).toInt64)))
def pLay (T : Nat → Nat) (s : tS) (hd j y x : Nat) : Nat × tS := thn (ask T s hd j 3) (fun s1 => thn (iRf (bdS s1 (hob s1 hd)) j (vaS s1 y), rdL s1 hd j) (fun s2 => (0, sBd (chL s2 hd j) (hob s2 hd) (setM (bdS s2 (hob s2 hd)) (plc j (vaS s2 y).toInt.toNat) (vaS s2 x).toInt32))))
def pRow (T : Nat → Nat) (s : tS) (hd j : Nat) (v : Int64) : Nat × tS := thn (ask T s hd j 3) (fun s1 => if v.toInt < 0 then (4, s1) else if 8 < v.toInt then (8, s1) else (0, sBd (chL s1 hd j) (hob s1 hd) (renB (bdS s1 (hob s1 hd)) j v)))
def shR (b1 b2 : tB) (j1 j2 : Nat) (m : Int64) : Nat := if b1.1 j1 = -3 ∨ b2.1 j2 = -3 then 1 else if m.toInt < 0 ∨ (b1.1 j1).toInt < m.toInt ∨ (b2.1 j2).toInt < m.toInt then 3 else 0
def pShf (T : Nat → Nat) (s : tS) (h1 j1 h2 j2 y : Nat) : Nat × tS := thn (ask T s h1 j1 3) (fun s1 => thn (ask T (rdL s1 h1 j1) h2 j2 3) (fun s2 => thn (shR (bdS s2 (hob s2 h1)) (bdS s2 (hob s2 h2)) j1 j2 (vaS s2 y), rdL s2 h2 j2) (fun s3 => (0, sBd (chL s3 h2 j2) (hob s3 h2) (cpyM (bdS s3 (hob s3 h1)) (bdS s3 (hob s3 h2)) j1 j2 (vaS s3 y).toInt.toNat)))))
/-- whether two bodies of a type have the same field -/
def sameF (t j : Nat) (b1 b2 : tB) : Prop := b1.1 j = b2.1 j ∧ (srt t j = 3 → ∀ i, i < 8 → b1.2 (plc j i) = b2.2 (plc j i))
noncomputable def sameD (t j : Nat) (b1 b2 : tB) : Bool := @decide (sameF t j b1 b2) (Classical.propDecidable _)
theorem sameD_t {t j : Nat} {b1 b2 : tB} : sameD t j b1 b2 = true ↔ sameF t j b1 b2 := by unfold sameD; exact @decide_eq_true_iff _ (Classical.propDecidable _)
theorem sameD_f {t j : Nat} {b1 b2 : tB} : sameD t j b1 b2 = false ↔ ¬ sameF t j b1 b2 := by
  rw [← sameD_t]
  cases sameD t j b1 b2 <;> simp
noncomputable def lkF (t p q : Nat) : Nat → Nat → tS → Bool × tS
  | 0, _, s => (true, s)
  | m + 1, j, s => if srt t j = 0 then (true, s) else if sameD t j (bdS s p) (bdS s q) = true then lkF t p q m (j + 1) (sTc (sTc s (2 * (8 * p + j))) (2 * (8 * q + j))) else (false, sTc (sTc s (2 * (8 * p + j))) (2 * (8 * q + j)))
noncomputable def lik (T : Nat → Nat) (s : tS) (p q : Int32) : Bool × tS :=
  if p = q then (true, s) else if p = -3 ∨ q = -3 ∨ T p.toNatClampNeg ≠ T q.toNatClampNeg then (false, s)
  else lkF (T p.toNatClampNeg) p.toNatClampNeg q.toNatClampNeg 8 0 (sLd (sLd s p.toNatClampNeg) q.toNatClampNeg)
abbrev aA (t : tA) : Nat := t.2.1.toNatClampNeg
abbrev aB (t : tA) : Nat := t.2.2.1.toInt.toNat
abbrev aC (t : tA) : Nat := t.2.2.2.1.toNatClampNeg
abbrev aD (t : tA) : Nat := t.2.2.2.2.1.toNatClampNeg
abbrev aE (t : tA) : Nat := t.2.2.2.2.2.toNatClampNeg
/-- an act's work: its throw, or 0 -/
noncomputable def prf (T : Nat → Nat) (t : tA) (s : tS) : Nat × tS :=
  match t.1.toNatClampNeg with
  | 0 => (0, sVa s (aA t) t.2.2.1)
  | 1 => (0, sVa s (aA t) (vaS s (aB t) + vaS s (aC t)))
  | 2 => (0, sVa s (aA t) (vaS s (aB t) - vaS s (aC t)))
  | 3 => if vaS s (aC t) = 0 then (5, s) else (0, sVa s (aA t) (vaS s (aB t) / vaS s (aC t)))
  | 4 => pGet T s (aA t) (aB t) (aC t)
  | 5 => pPut T s (aA t) (aB t) 1 (vaS s (aC t))
  | 6 => pFol T s (aA t) (aB t) (aC t)
  | 7 => pPut T s (aA t) (aB t) 2 (haS s (aC t)).toInt64
  | 8 => pItm T s (aA t) (aB t) (aC t) (aD t)
  | 9 => pLay T s (aA t) (aB t) (aC t) (aD t)
  | 10 => pRow T s (aA t) (aB t) (vaS s (aC t))
  | 11 => pShf T s (aA t) (aB t) (aC t) (aD t) (aE t)
  | 12 => (0, sVa s (aA t) (if haS s (aB t) = haS s (aC t) then 1 else 0))
  | 13 => (0, sVa (lik T s (haS s (aB t)) (haS s (aC t))).2 (aA t) (if (lik T s (haS s (aB t)) (haS s (aC t))).1 = true then 1 else 0))
  | 14 => (0, s)
  | 15 => (0, s)
  | 16 => (0, sGf s (vaS s (aA t)))
  | _ => (6, s)
def nxt (t : tA) (p : Nat) (s : tS) : Nat :=
  match t.1.toNatClampNeg with
  | 14 => aB t
  | 15 => if 0 < (vaS s (aA t)).toInt then aB t else p + 1
  | 16 => 32
  | _ => p + 1
/-- a call's work: the throw, the act that threw, how many acts, what it leaves -/
noncomputable def rnS (T : Nat → Nat) (A : Nat → tA) (z : Nat) : Nat → Nat → Nat → tS → Nat × Nat × Nat × tS
  | 0, p, c, s => if p < z then (7, p, c, s) else (0, 0, c, s)
  | m + 1, p, c, s => if p < z then (if (prf T (A p) s).1 = 0 then rnS T A z m (nxt (A p) p s) (c + 1) (prf T (A p) s).2 else ((prf T (A p) s).1, p, c + 1, (prf T (A p) s).2)) else (0, 0, c, s)
/-! what holds of every picture -/
def okBd (n t : Nat) (b : tB) : Prop := ∀ j, j < 8 → (srt t j = 0 → b.1 j = 0) ∧ (srt t j = 2 → (b.1 j).toInt = -3 ∨ (0 ≤ (b.1 j).toInt ∧ (b.1 j).toInt < n)) ∧ (srt t j = 3 → ((b.1 j).toInt = -3 ∨ (0 ≤ (b.1 j).toInt ∧ (b.1 j).toInt ≤ 8)) ∧ ∀ i : Nat, i < 8 → (b.1 j).toInt ≤ (i : Int) → b.2 (plc j i) = 0)
def okHa (n : Nat) (x : Int32) : Prop := x.toInt = -3 ∨ (0 ≤ x.toInt ∧ x.toInt < n)
def okTc (l : List Nat) : Prop := l.Nodup ∧ ∀ c, c ∈ l → c < 384
def okS (n : Nat) (T : Nat → Nat) (s : tS) : Prop := (∀ o, o < n → okBd n (T o) (bdS s o)) ∧ (∀ x, x < 4 → okHa n (haS s x)) ∧ okTc (trS s) ∧ ∀ o, ldS s o = true → o < n
theorem okTc_tch {l : List Nat} {c : Nat} (h : okTc l) (hc : c < 384) : okTc (tch c l) := by
  unfold tch
  split
  · exact h
  · rename_i hm
    refine ⟨?_, fun d hd => ?_⟩
    · rw [List.nodup_append]
      exact ⟨h.1, by simp, fun a ha b hb => by rw [List.mem_singleton] at hb; subst hb; exact fun q => hm (q ▸ ha)⟩
    · rw [List.mem_append, List.mem_singleton] at hd
      rcases hd with hd | hd
      · exact h.2 d hd
      · subst hd; exact hc
theorem okS_tc {n : Nat} {T : Nat → Nat} {s : tS} {c : Nat} (h : okS n T s) (hc : c < 384) : okS n T (sTc s c) := ⟨h.1, h.2.1, okTc_tch h.2.2.1 hc, h.2.2.2⟩
theorem okS_ld {n o : Nat} {T : Nat → Nat} {s : tS} (h : okS n T s) (ho : o < n) : okS n T (sLd s o) := ⟨h.1, h.2.1, h.2.2.1, fun q hq => by
  by_cases e : q = o
  · rw [e]; exact ho
  · exact h.2.2.2 q (by have : va_up (ldS s) o true q = true := hq; rw [va_up_ne _ _ e] at this; exact this)⟩
theorem okS_va {n x : Nat} {T : Nat → Nat} {s : tS} {v : Int64} (h : okS n T s) : okS n T (sVa s x v) := h
theorem okS_gf {n : Nat} {T : Nat → Nat} {s : tS} {v : Int64} (h : okS n T s) : okS n T (sGf s v) := h
theorem okS_ha {n x : Nat} {T : Nat → Nat} {s : tS} {v : Int32} (h : okS n T s) (hv : okHa n v) : okS n T (sHa s x v) := ⟨h.1, fun y hy => by
  show okHa n (va_up (haS s) x v y)
  by_cases e : y = x
  · rw [e, va_up_self]; exact hv
  · rw [va_up_ne _ _ e]; exact h.2.1 y hy, h.2.2.1, h.2.2.2⟩
theorem okS_bd {n o : Nat} {T : Nat → Nat} {s : tS} {b : tB} (h : okS n T s) (hb : okBd n (T o) b) : okS n T (sBd s o b) := ⟨fun q hq => by
  show okBd n (T q) (va_up (bdS s) o b q)
  by_cases e : q = o
  · rw [e, va_up_self]; exact hb
  · rw [va_up_ne _ _ e]; exact h.1 q hq, h.2.1, h.2.2.1, h.2.2.2⟩
theorem srt_b : ∀ t, t < 3 → ∀ j, j < 8 → srt t j ≤ 3 := by decide +kernel
theorem srt_I : ∀ t, t < 3 → ∀ j, j < 8 → sortF (8 * t + j) = nI (srt t j) := by decide +kernel
theorem srt_3 : ∀ t, t < 3 → ∀ j, j < 8 → srt t j = 3 → (t = 1 ∧ j = 5) ∨ (t = 2 ∧ j = 1) ∨ (t = 2 ∧ j = 2) := by decide +kernel
theorem plc_2 (t : Nat) (ht : t < 3) (j : Nat) (hj : j < 8) (j2 : Nat) (hj2 : j2 < 8) (h : srt t j = 3 ∧ srt t j2 = 3 ∧ j ≠ j2) : (j = 2 ∧ j2 ≠ 2) ∨ (j ≠ 2 ∧ j2 = 2) := by
  have h1 := srt_3 t ht j hj h.1
  have h2 := srt_3 t ht j2 hj2 h.2.1
  have h3 := h.2.2
  omega
theorem plc_ne (t : Nat) (ht : t < 3) (j : Nat) (hj : j < 8) (j2 : Nat) (hj2 : j2 < 8) (h1 : srt t j = 3) (h2 : srt t j2 = 3) (hne : j ≠ j2) (i : Nat) (hi : i < 8) (i2 : Nat) (hi2 : i2 < 8) : plc j i ≠ plc j2 i2 := by
  rcases plc_2 t ht j hj j2 hj2 ⟨h1, h2, hne⟩ with ⟨a, b⟩ | ⟨a, b⟩
  · unfold plc; rw [if_pos a, if_neg b]; omega
  · unfold plc; rw [if_neg a, if_pos b]; omega
theorem plc_inj {j i i2 : Nat} (h : plc j i = plc j i2) : i = i2 := by unfold plc at h; omega
theorem plc_lt {j i : Nat} (h : i < 8) : plc j i < 16 := by unfold plc; split <;> omega
theorem okBd_C {n t j : Nat} {b : tB} {v : Int64} (h : okBd n t b) (h0 : srt t j ≠ 0) (h3 : srt t j ≠ 3) (h2 : srt t j = 2 → v.toInt = -3 ∨ (0 ≤ v.toInt ∧ v.toInt < n)) : okBd n t (setC b j v) := by
  intro i hi
  show (srt t i = 0 → va_up b.1 j v i = 0) ∧ _
  by_cases e : i = j
  · subst e
    refine ⟨fun q => absurd q h0, fun q => ?_, fun q => absurd q h3⟩
    show (va_up b.1 i v i).toInt = -3 ∨ (0 ≤ (va_up b.1 i v i).toInt ∧ (va_up b.1 i v i).toInt < n)
    rw [va_up_self]; exact h2 q
  · have hx : va_up b.1 j v i = b.1 i := va_up_ne _ _ e
    refine ⟨fun q => by rw [hx]; exact (h i hi).1 q, fun q => ?_, fun q => ?_⟩
    · show (va_up b.1 j v i).toInt = -3 ∨ (0 ≤ (va_up b.1 j v i).toInt ∧ (va_up b.1 j v i).toInt < n)
      rw [hx]; exact (h i hi).2.1 q
    · show ((va_up b.1 j v i).toInt = -3 ∨ (0 ≤ (va_up b.1 j v i).toInt ∧ (va_up b.1 j v i).toInt ≤ 8)) ∧ ∀ y : Nat, y < 8 → (va_up b.1 j v i).toInt ≤ (y : Int) → b.2 (plc i y) = 0
      rw [hx]; exact (h i hi).2.2 q
theorem okBd_M {n t j i : Nat} {b : tB} {v : Int32} (ht : t < 3) (hj : j < 8) (h : okBd n t b) (h3 : srt t j = 3) (hi : i < 8) (hlt : (i : Int) < (b.1 j).toInt) : okBd n t (setM b (plc j i) v) := by
  intro q hq
  refine ⟨(h q hq).1, (h q hq).2.1, fun hs => ⟨((h q hq).2.2 hs).1, fun y hy hle => ?_⟩⟩
  show va_up b.2 (plc j i) v (plc q y) = 0
  by_cases e : q = j
  · subst e
    have hle : (b.1 q).toInt ≤ y := hle
    rw [va_up_ne _ _ (fun z => by have := plc_inj z; omega)]
    exact ((h q hq).2.2 hs).2 y hy hle
  · rw [va_up_ne _ _ (plc_ne t ht q hq j hj hs h3 e y hy i hi)]
    exact ((h q hq).2.2 hs).2 y hy hle
theorem okBd_ren {n t j : Nat} {b : tB} {v : Int64} (ht : t < 3) (hj : j < 8) (h : okBd n t b) (h3 : srt t j = 3) (hv : v.toInt = -3 ∨ (0 ≤ v.toInt ∧ v.toInt ≤ 8)) : okBd n t (renB b j v) := by
  intro q hq
  by_cases e : q = j
  · subst e
    refine ⟨fun z => by omega, fun z => by omega, fun _ => ⟨?_, fun y hy _ => ?_⟩⟩
    · show (va_up b.1 q v q).toInt = -3 ∨ (0 ≤ (va_up b.1 q v q).toInt ∧ (va_up b.1 q v q).toInt ≤ 8)
      rw [va_up_self]; exact hv
    · show (if plc q 0 ≤ plc q y ∧ plc q y < plc q 0 + 8 then (0 : Int32) else b.2 (plc q y)) = 0
      rw [if_pos (by unfold plc; omega)]
  · have hx : va_up b.1 j v q = b.1 q := va_up_ne _ _ e
    refine ⟨fun z => ?_, fun z => ?_, fun hs => ?_⟩
    · show va_up b.1 j v q = 0
      rw [hx]; exact (h q hq).1 z
    · show (va_up b.1 j v q).toInt = -3 ∨ (0 ≤ (va_up b.1 j v q).toInt ∧ (va_up b.1 j v q).toInt < n)
      rw [hx]; exact (h q hq).2.1 z
    · show ((va_up b.1 j v q).toInt = -3 ∨ (0 ≤ (va_up b.1 j v q).toInt ∧ (va_up b.1 j v q).toInt ≤ 8)) ∧ ∀ y : Nat, y < 8 → (va_up b.1 j v q).toInt ≤ (y : Int) → (if plc j 0 ≤ plc q y ∧ plc q y < plc j 0 + 8 then (0 : Int32) else b.2 (plc q y)) = 0
      rw [hx]
      refine ⟨((h q hq).2.2 hs).1, fun y hy hle => ?_⟩
      split
      · rfl
      · exact ((h q hq).2.2 hs).2 y hy hle
theorem okBd_cpy {n t t1 j1 j2 m : Nat} {b1 b2 : tB} (ht : t < 3) (hj2 : j2 < 8) (h : okBd n t b2) (h3 : srt t j2 = 3) (hm : (m : Int) ≤ (b2.1 j2).toInt) : okBd n t (cpyM b1 b2 j1 j2 m) := by
  intro q hq
  refine ⟨(h q hq).1, (h q hq).2.1, fun hs => ⟨((h q hq).2.2 hs).1, fun y hy hle => ?_⟩⟩
  have hle : (b2.1 q).toInt ≤ y := hle
  have h8 := ((h j2 hj2).2.2 h3).1
  show (if plc j2 0 ≤ plc q y ∧ plc q y < plc j2 0 + m then b1.2 (plc j1 0 + (plc q y - plc j2 0)) else b2.2 (plc q y)) = 0
  rw [if_neg ?_]
  · exact ((h q hq).2.2 hs).2 y hy hle
  · intro z
    by_cases e : q = j2
    · subst e
      unfold plc at z; omega
    · have := plc_ne t ht q hq j2 hj2 hs h3 e y hy (plc q y - plc j2 0) (by omega)
      unfold plc at this z; omega
/-! asking -/
theorem okHa_ob {n : Nat} {x : Int32} (h : okHa n x) (hne : x ≠ -3) : x.toNatClampNeg < n ∧ (x.toNatClampNeg : Int) = x.toInt := by
  rcases h with h | h
  · exact absurd (Int32.toInt_inj.mp (h.trans (by decide))) hne
  · have := ic_clN (rfl : x.toInt = _) h.1
    omega
theorem ask_0 {T : Nat → Nat} {s : tS} {hd j st : Nat} (h : (ask T s hd j st).1 = 0) : haS s hd ≠ -3 ∧ srt (T (hob s hd)) j = st ∧ srt (T (hob s hd)) j ≠ 0 ∧ (ask T s hd j st).2 = sLd s (hob s hd) := by
  unfold ask at h ⊢
  by_cases h1 : haS s hd = -3
  · rw [if_pos h1] at h; cases h
  · rw [if_neg h1] at h ⊢
    have h : (if srt (T (hob s hd)) j = 0 then 3 else if srt (T (hob s hd)) j = st then 0 else 2) = 0 := h
    by_cases h2 : srt (T (hob s hd)) j = 0
    · rw [if_pos h2] at h; cases h
    · rw [if_neg h2] at h
      by_cases h3 : srt (T (hob s hd)) j = st
      · exact ⟨h1, h3, h2, rfl⟩
      · rw [if_neg h3] at h; cases h
theorem ask_ok {n hd j st : Nat} {T : Nat → Nat} {s : tS} (h : okS n T s) (hh : hd < 4) : okS n T (ask T s hd j st).2 := by
  unfold ask
  split
  · exact h
  · rename_i hne
    exact okS_ld h (okHa_ob (h.2.1 hd hh) hne).1
theorem ask_ha {T : Nat → Nat} {s : tS} {hd j st : Nat} : haS (ask T s hd j st).2 = haS s := by unfold ask; split <;> rfl
theorem ask_va {T : Nat → Nat} {s : tS} {hd j st : Nat} : vaS (ask T s hd j st).2 = vaS s := by unfold ask; split <;> rfl
theorem ask_bd {T : Nat → Nat} {s : tS} {hd j st : Nat} : bdS (ask T s hd j st).2 = bdS s := by unfold ask; split <;> rfl
theorem ask_gf {T : Nat → Nat} {s : tS} {hd j st : Nat} : gfS (ask T s hd j st).2 = gfS s := by unfold ask; split <;> rfl
theorem ask_tr {T : Nat → Nat} {s : tS} {hd j st : Nat} : trS (ask T s hd j st).2 = trS s := by unfold ask; split <;> rfl
theorem hob_ask {T : Nat → Nat} {s : tS} {hd j st hd2 : Nat} : hob (ask T s hd j st).2 hd2 = hob s hd2 := by unfold hob; rw [ask_ha]
theorem ask_n {n hd j st : Nat} {T : Nat → Nat} {s : tS} (h : okS n T s) (hh : hd < 4) (h0 : (ask T s hd j st).1 = 0) : hob s hd < n := (okHa_ob (h.2.1 hd hh) (ask_0 h0).1).1
theorem rd_ok {n hd j : Nat} {T : Nat → Nat} {s : tS} (h : okS n T s) (hn : n ≤ 24) (hj : j < 8) (ho : hob s hd < n) : okS n T (rdL s hd j) := okS_tc h (by omega)
theorem ch_ok {n hd j : Nat} {T : Nat → Nat} {s : tS} (h : okS n T s) (hn : n ≤ 24) (hj : j < 8) (ho : hob s hd < n) : okS n T (chL s hd j) := okS_tc h (by omega)
theorem thn_ok {n : Nat} {T : Nat → Nat} {r : Nat × tS} {k : tS → Nat × tS} (h : okS n T r.2) (hk : r.1 = 0 → okS n T (k r.2).2) : okS n T (thn r k).2 := by
  unfold thn
  split
  · rename_i q; exact hk q
  · exact h
theorem thn_1 {r : Nat × tS} {k : tS → Nat × tS} (h : r.1 ≠ 0) : thn r k = r := if_neg h
theorem thn_0 {r : Nat × tS} {k : tS → Nat × tS} (h : r.1 = 0) : thn r k = k r.2 := if_pos h
theorem lkF_ok {n t p q : Nat} {T : Nat → Nat} (hn : n ≤ 24) (hp : p < n) (hq : q < n) : ∀ (m j : Nat) (s : tS), j + m ≤ 8 → okS n T s → okS n T (lkF t p q m j s).2
  | 0, _, _, _, h => h
  | m + 1, j, s, hj, h => by
    have h1 : okS n T (sTc (sTc s (2 * (8 * p + j))) (2 * (8 * q + j))) := okS_tc (okS_tc h (by omega)) (by omega)
    show okS n T (if srt t j = 0 then (true, s) else if sameD t j (bdS s p) (bdS s q) = true then lkF t p q m (j + 1) (sTc (sTc s (2 * (8 * p + j))) (2 * (8 * q + j))) else (false, sTc (sTc s (2 * (8 * p + j))) (2 * (8 * q + j)))).2
    split
    · exact h
    · split
      · exact lkF_ok hn hp hq m (j + 1) _ (by omega) h1
      · exact h1
theorem lik_ok {n : Nat} {T : Nat → Nat} {s : tS} {p q : Int32} (hn : n ≤ 24) (h : okS n T s) (hp : okHa n p) (hq : okHa n q) : okS n T (lik T s p q).2 := by
  unfold lik
  split
  · exact h
  · split
    · exact h
    · rename_i h1 h2
      have hp := (okHa_ob hp (fun z => h2 (Or.inl z))).1
      have hq := (okHa_ob hq (fun z => h2 (Or.inr (Or.inl z)))).1
      exact lkF_ok hn hp hq 8 0 _ (by omega) (okS_ld (okS_ld h hp) hq)
