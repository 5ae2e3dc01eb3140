/-! what the readers answer -/
def ocK (l : List Nat) : Nat → Nat
  | 0 => 0
  | k + 1 => ocK l k + l.getD k 0 % 2
def ocn (l : List Nat) : Nat := ocK l l.length
theorem ocK_ext {l m : List Nat} : ∀ k, (∀ i, i < k → l.getD i 0 = m.getD i 0) → ocK l k = ocK m k
  | 0, _ => rfl
  | k + 1, h => by
    show ocK l k + l.getD k 0 % 2 = ocK m k + m.getD k 0 % 2
    rw [ocK_ext k (fun i hi => h i (by omega)), h k (by omega)]
theorem ocn_app (l : List Nat) (c : Nat) : ocn (l ++ [c]) = ocn l + c % 2 := by
  unfold ocn
  rw [List.length_append]
  show ocK (l ++ [c]) l.length + (l ++ [c]).getD l.length 0 % 2 = _
  rw [getD_last, ocK_ext (l := l ++ [c]) (m := l) l.length (fun i hi => getD_app hi)]
theorem ocK_le (l : List Nat) : ∀ k, ocK l k ≤ k
  | 0 => Nat.le_refl 0
  | k + 1 => by
    have := ocK_le l k
    show ocK l k + l.getD k 0 % 2 ≤ k + 1
    omega
theorem ocn_le (l : List Nat) : ocn l ≤ l.length := ocK_le l _
def tchA (l : List Nat) (k w : Int32) : Int32 := if k.toInt < 0 ∨ w.toInt < 0 ∨ 1 < w.toInt then -1 else if (l.length : Int) ≤ k.toInt then -3 else if w.toInt = 0 then nI (l.getD k.toNatClampNeg 0 / 2) else nI (l.getD k.toNatClampNeg 0 % 2)
def wrA (l : List Nat) (k : Int32) : Int32 := if k.toInt < 0 then -1 else if (l.length : Int) ≤ k.toInt then -3 else nI (l.getD k.toNatClampNeg 0)
def obA (n : Nat) (p : Nat → Bool) (o : Int32) : Int32 := if 0 ≤ o.toInt ∧ o.toInt < n then b2i (p o.toNatClampNeg) else -1
def htA (n : Nat) (p : Nat → Bool) (o : Int32) : Int32 := if 0 ≤ o.toInt ∧ o.toInt < n then b2i (!p o.toNatClampNeg) else -1
def tmA (n : Nat) (T : Nat → Nat) (tms : Nat → Int32) (j : Int32) : Int32 := if 0 ≤ j.toInt ∧ j.toInt < 192 ∧ j.toNatClampNeg / 8 < n ∧ srt (T (j.toNatClampNeg / 8)) (j.toNatClampNeg % 8) ≠ 0 then tms j.toNatClampNeg else -1
def alA (n hg : Nat) (o b : Int32) : Int32 := if 0 ≤ o.toInt ∧ o.toInt < n ∧ 0 ≤ b.toInt ∧ b.toInt < 6 then (if hg = 40 then -2 else 1) else -1
def vwP (n : Nat) (T : Nat → Nat) (hg : Nat) (o j a : Int32) : Prop := 0 ≤ o.toInt ∧ o.toInt < n ∧ 0 ≤ j.toInt ∧ j.toInt < 8 ∧ srt (T o.toNatClampNeg) j.toNatClampNeg ≠ 0 ∧ 0 ≤ a.toInt ∧ a.toInt ≤ hg
/-- a view's answer, and the status behind it -/
def vwA (n : Nat) (T : Nat → Nat) (hg : Nat) (ver : Nat → Nat → tB) (o j a i : Int32) (r : Int64) (sx : Int32) : Prop :=
  (¬ vwP n T hg o j a ∧ r = -1 ∧ sx = -1) ∨ (vwP n T hg o j a ∧ i.toInt = -3 ∧ r = (ver a.toNatClampNeg o.toNatClampNeg).1 j.toNatClampNeg ∧ sx = 0) ∨ (vwP n T hg o j a ∧ srt (T o.toNatClampNeg) j.toNatClampNeg = 3 ∧ 0 ≤ i.toInt ∧ i.toInt < ((ver a.toNatClampNeg o.toNatClampNeg).1 j.toNatClampNeg).toInt ∧ r = ((ver a.toNatClampNeg o.toNatClampNeg).2 (plc j.toNatClampNeg i.toNatClampNeg)).toInt64 ∧ sx = 0) ∨ (vwP n T hg o j a ∧ i.toInt ≠ -3 ∧ (srt (T o.toNatClampNeg) j.toNatClampNeg ≠ 3 ∨ i.toInt < 0 ∨ ((ver a.toNatClampNeg o.toNatClampNeg).1 j.toNatClampNeg).toInt ≤ i.toInt) ∧ r = -1 ∧ sx = -1)
def tdA (n hg : Nat) (fe : Int32) (l wl : List Nat) (ld : Nat → Bool) (ac : Nat) (ca : Int32) (w : Int32) : Int32 := if w.toInt = 0 then nI n else if w.toInt = 1 then nI hg else if w.toInt = 2 then fe else if w.toInt = 3 then nI l.length else if w.toInt = 4 then nI (ocn l) else if w.toInt = 5 then nI wl.length else if w.toInt = 6 then nI (cnt ld 24) else if w.toInt = 7 then nI ac else if w.toInt = 8 then ca else -1
