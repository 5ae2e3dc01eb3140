/-! bits -/
def btO (x : Int32) (o : Nat) : Bool := x.toBitVec.getLsbD o
theorem sh_amtB : ∀ n, n < 32 → ((nI n &&& 31).toBitVec.smod 32).toNat = n := by decide +kernel
theorem sh_oneB : ∀ n, n < 32 → ((1 : Int32) <<< (nI n &&& 31)).toBitVec = BitVec.twoPow 32 n := by decide +kernel
theorem and_oneB (y : Int32) : (y &&& 1) = 1 ↔ y.toBitVec.getLsbD 0 = true := by
  have e1 : (1 : Int32).toBitVec = 1#32 := rfl
  constructor
  · intro h
    have q := congrArg (fun q : Int32 => q.toBitVec.getLsbD 0) h
    simp only [Int32.toBitVec_and, BitVec.getLsbD_and] at q
    rw [e1] at q
    simpa using q
  · intro h
    apply Int32.toBitVec_inj.mp
    apply BitVec.eq_of_getLsbD_eq
    intro i hi
    rw [Int32.toBitVec_and, BitVec.getLsbD_and, e1]
    by_cases h0 : i = 0
    · subst h0; rw [h]; rfl
    · have : (1#32).getLsbD i = false := by simp [BitVec.getLsbD_one, h0]
      rw [this]; simp
theorem and_1B (y : Int32) : (y &&& 1) = 0 ∨ (y &&& 1) = 1 := by
  obtain ⟨j, hj, e⟩ := pk_andE y (m := 1) 1 (by decide)
  have : j = 0 ∨ j = 1 := by omega
  rcases this with rfl | rfl
  · exact Or.inl e
  · exact Or.inr e
theorem bt_iff {x : Int32} {j : Nat} (hj : j < 32) : ((x >>> (nI j &&& 31)) &&& 1) = 1 ↔ btO x j = true := by
  unfold btO
  rw [and_oneB, Int32.toBitVec_shiftRight]
  show (x.toBitVec.sshiftRight ((nI j &&& 31).toBitVec.smod 32).toNat).getLsbD 0 = true ↔ _
  rw [sh_amtB j hj, BitVec.getLsbD_sshiftRight]
  have : j + 0 < 32 := by omega
  simp [this]
  intro hh
  omega
theorem bt_get {x : Int32} {j : Nat} (hj : j < 32) : ((x >>> (nI j &&& 31)) &&& 1) = b2i (btO x j) := by
  cases hb : btO x j with
  | true => exact (bt_iff hj).mpr hb
  | false =>
    rcases and_1B (x >>> (nI j &&& 31)) with h | h
    · exact h
    · rw [(bt_iff hj).mp h] at hb; cases hb
theorem bt_or {x : Int32} {m j : Nat} (hm : m < 32) (hj : j < 32) : btO (x ||| ((1 : Int32) <<< (nI m &&& 31))) j = (btO x j || decide (j = m)) := by
  unfold btO
  rw [Int32.toBitVec_or, BitVec.getLsbD_or, sh_oneB m hm, BitVec.getLsbD_twoPow]
  by_cases h : j = m
  · subst h; simp [hj]
  · have : ¬ m = j := fun e => h e.symm
    simp [this, h]
theorem bt_and0 {x : Int32} {m : Nat} (hm : m < 32) : (x &&& ((1 : Int32) <<< (nI m &&& 31))) = 0 ↔ btO x m = false := by
  unfold btO
  constructor
  · intro h
    have q := congrArg (fun q : Int32 => q.toBitVec.getLsbD m) h
    simp only [Int32.toBitVec_and, BitVec.getLsbD_and] at q
    rw [sh_oneB m hm, BitVec.getLsbD_twoPow] at q
    have z : (0 : Int32).toBitVec.getLsbD m = false := by simp
    rw [z] at q
    simpa [hm] using q
  · intro h
    apply Int32.toBitVec_inj.mp
    apply BitVec.eq_of_getLsbD_eq
    intro i hi
    rw [Int32.toBitVec_and, BitVec.getLsbD_and, sh_oneB m hm, BitVec.getLsbD_twoPow]
    have z : (0 : Int32).toBitVec.getLsbD i = false := by simp
    rw [z]
    by_cases e : m = i
    · subst e; rw [h]; rfl
    · simp [e]
theorem bt_zero {o : Nat} : btO 0 o = false := by unfold btO; simp
theorem bt_andnot {x y : Int32} {o : Nat} (ho : o < 32) : btO (x &&& (y ^^^ (-1))) o = (btO x o && !btO y o) := by
  unfold btO
  rw [Int32.toBitVec_and, BitVec.getLsbD_and, Int32.toBitVec_xor, BitVec.getLsbD_xor]
  have : (-1 : Int32).toBitVec.getLsbD o = true := by
    have e : (-1 : Int32).toBitVec = BitVec.allOnes 32 := by decide
    rw [e, BitVec.getLsbD_allOnes]; simp [ho]
  rw [this]
  cases x.toBitVec.getLsbD o <;> cases y.toBitVec.getLsbD o <;> rfl
theorem bt_orB {x y : Int32} {o : Nat} : btO (x ||| y) o = (btO x o || btO y o) := by
  unfold btO
  rw [Int32.toBitVec_or, BitVec.getLsbD_or]
abbrev tchL (c : Nat) (l : List Nat) : List Nat := tch c l
/-! contents, up to what shows -/
def eqB (t : Nat) (c1 c2 : tB) : Prop := ∀ j, j < 8 → sameF t j c1 c2
theorem sameF.rf {t j : Nat} {c : tB} : sameF t j c c := ⟨rfl, fun _ _ _ => rfl⟩
theorem sameF.sy {t j : Nat} {c d : tB} (h : sameF t j c d) : sameF t j d c := ⟨h.1.symm, fun h3 i hi => (h.2 h3 i hi).symm⟩
theorem sameF.tr {t j : Nat} {c d e : tB} (h : sameF t j c d) (h2 : sameF t j d e) : sameF t j c e := ⟨h.1.trans h2.1, fun h3 i hi => (h.2 h3 i hi).trans (h2.2 h3 i hi)⟩
theorem eqB.rf {t : Nat} {c : tB} : eqB t c c := fun _ _ => sameF.rf
theorem eqB.sy {t : Nat} {c d : tB} (h : eqB t c d) : eqB t d c := fun j hj => (h j hj).sy
theorem eqB.tr {t : Nat} {c d e : tB} (h : eqB t c d) (h2 : eqB t d e) : eqB t c e := fun j hj => (h j hj).tr (h2 j hj)
theorem eqB.same {t j : Nat} {c c2 d d2 : tB} (hj : j < 8) (h : eqB t c c2) (h2 : eqB t d d2) : sameF t j c d ↔ sameF t j c2 d2 := ⟨fun q => ((h j hj).sy.tr q).tr (h2 j hj), fun q => ((h j hj).tr q).tr (h2 j hj).sy⟩
theorem eqB.cpy {t : Nat} {c d : tB} : eqB t (va_cpy c.1 d.1 0 0 8, va_cpy c.2 d.2 0 0 16) c := by
  intro j hj
  refine ⟨?_, fun _ i hi => ?_⟩
  · show va_cpy c.1 d.1 0 0 8 j = c.1 j
    unfold va_cpy; rw [if_pos (by omega), show 0 + (j - 0) = j by omega]
  · show va_cpy c.2 d.2 0 0 16 (plc j i) = c.2 (plc j i)
    have := plc_lt (j := j) hi
    unfold va_cpy; rw [if_pos (by omega), show 0 + (plc j i - 0) = plc j i by omega]
theorem eqB.setC {t j : Nat} {c d : tB} {v : Int64} (h : eqB t c d) : eqB t (setC c j v) (setC d j v) := by
  intro i hi
  refine ⟨?_, fun h3 q hq => (h i hi).2 h3 q hq⟩
  show va_up c.1 j v i = va_up d.1 j v i
  unfold va_up
  split
  · rfl
  · exact (h i hi).1
theorem eqB.setM {t p : Nat} {c d : tB} {v : Int32} (h : eqB t c d) : eqB t (setM c p v) (setM d p v) := by
  intro i hi
  refine ⟨(h i hi).1, fun h3 q hq => ?_⟩
  show va_up c.2 p v (plc i q) = va_up d.2 p v (plc i q)
  unfold va_up
  split
  · rfl
  · exact (h i hi).2 h3 q hq
theorem eqB.ren {t j : Nat} {c d : tB} {v : Int64} (h : eqB t c d) : eqB t (renB c j v) (renB d j v) := by
  intro i hi
  refine ⟨?_, fun h3 q hq => ?_⟩
  · show va_up c.1 j v i = va_up d.1 j v i
    unfold va_up
    split
    · rfl
    · exact (h i hi).1
  · show (if plc j 0 ≤ plc i q ∧ plc i q < plc j 0 + 8 then (0 : Int32) else c.2 (plc i q)) = (if plc j 0 ≤ plc i q ∧ plc i q < plc j 0 + 8 then (0 : Int32) else d.2 (plc i q))
    split
    · rfl
    · exact (h i hi).2 h3 q hq
theorem plc0 (j i : Nat) : plc j i = plc j 0 + i := by unfold plc; omega
theorem eqB.cpyM {t1 t j1 j2 m : Nat} {b1 b2 d1 d2 : tB} (hj1 : j1 < 8) (h1 : eqB t1 b1 d1) (h3 : srt t1 j1 = 3) (h2 : eqB t b2 d2) (hm : m ≤ 8) : eqB t (cpyM b1 b2 j1 j2 m) (cpyM d1 d2 j1 j2 m) := by
  intro i hi
  refine ⟨(h2 i hi).1, fun hs q hq => ?_⟩
  show va_cpy b1.2 b2.2 (plc j1 0) (plc j2 0) m (plc i q) = va_cpy d1.2 d2.2 (plc j1 0) (plc j2 0) m (plc i q)
  unfold va_cpy
  by_cases z : plc j2 0 ≤ plc i q ∧ plc i q < plc j2 0 + m
  · rw [if_pos z, if_pos z, ← plc0, ]
    exact (h1 j1 hj1).2 h3 _ (by omega)
  · rw [if_neg z, if_neg z]
    exact (h2 i hi).2 hs q hq
/-! what is touched, in the class's form -/
def TRC (l : List Nat) (e : Int32 × Int32) (en rb cb : Nat → Int32) : Prop := okTc l ∧ e.1 = nI l.length ∧ e.2 = nI (ocn l) ∧ (∀ i, i < l.length → en i = nI (l.getD i 0)) ∧ (∀ o, o < 24 → ∀ j, j < 8 → (btO (rb o) j = true ↔ 2 * (8 * o + j) ∈ l)) ∧ ∀ o, o < 24 → ∀ j, j < 8 → (btO (cb o) j = true ↔ 2 * (8 * o + j) + 1 ∈ l)
theorem TRC.nil {en rb cb : Nat → Int32} (hr : ∀ o, o < 24 → rb o = 0) (hc : ∀ o, o < 24 → cb o = 0) : TRC [] (0, 0) en rb cb := by
  refine ⟨⟨List.nodup_nil, fun c h => absurd h List.not_mem_nil⟩, rfl, rfl, fun i hi => absurd hi (by show ¬ i < 0; omega), fun o ho j hj => ?_, fun o ho j hj => ?_⟩
  · rw [hr o ho, bt_zero]; exact ⟨fun h => (by cases h), fun h => absurd h List.not_mem_nil⟩
  · rw [hc o ho, bt_zero]; exact ⟨fun h => (by cases h), fun h => absurd h List.not_mem_nil⟩
theorem tch_in {c : Nat} {l : List Nat} (h : c ∈ l) : tch c l = l := if_pos h
theorem tch_out {c : Nat} {l : List Nat} (h : c ∉ l) : tch c l = l ++ [c] := if_neg h
theorem TRC.add {l : List Nat} {e : Int32 × Int32} {en rb cb en2 rb2 cb2 : Nat → Int32} {c o j : Nat} (h : TRC l e en rb cb) (ho : o < 24) (hj : j < 8) (hn : c ∉ l) (he : ∀ i, i < l.length → en2 i = en i) (hl : en2 l.length = nI c)
    (hc : (c = 2 * (8 * o + j) ∧ cb2 = cb ∧ (∀ p, p ≠ o → rb2 p = rb p) ∧ rb2 o = (rb o ||| ((1 : Int32) <<< (nI j &&& 31)))) ∨ (c = 2 * (8 * o + j) + 1 ∧ rb2 = rb ∧ (∀ p, p ≠ o → cb2 p = cb p) ∧ cb2 o = (cb o ||| ((1 : Int32) <<< (nI j &&& 31))))) : TRC (l ++ [c]) (nI (l.length + 1), nI (ocn l + c % 2)) en2 rb2 cb2 := by
  obtain ⟨h1, -, -, h4, h5, h6⟩ := h
  have hc384 : c < 384 := by rcases hc with q | q <;> (have := q.1; omega)
  refine ⟨tch_out hn ▸ okTc_tch h1 hc384, ?_, ?_, fun i hi => ?_, fun p hp q hq => ?_, fun p hp q hq => ?_⟩
  · rw [List.length_append]; rfl
  · rw [ocn_app]
  · rw [List.length_append] at hi
    have hi : i < l.length + 1 := hi
    by_cases e1 : i = l.length
    · subst e1; rw [getD_last]; exact hl
    · rw [getD_app (by omega), he i (by omega)]; exact h4 i (by omega)
  · rw [List.mem_append, List.mem_singleton]
    rcases hc with ⟨e1, e2, e3, e4⟩ | ⟨e1, e2, e3, e4⟩
    · by_cases ep : p = o
      · subst ep
        rw [e4, bt_or (by omega) (by omega), Bool.or_eq_true, h5 p hp q hq, decide_eq_true_iff]
        constructor
        · rintro (w | w)
          · exact Or.inl w
          · exact Or.inr (by omega)
        · rintro (w | w)
          · exact Or.inl w
          · exact Or.inr (by omega)
      · rw [e3 p ep, h5 p hp q hq]
        exact ⟨Or.inl, fun w => w.resolve_right (fun z => by omega)⟩
    · rw [e2, h5 p hp q hq]
      exact ⟨Or.inl, fun w => w.resolve_right (fun z => by omega)⟩
  · rw [List.mem_append, List.mem_singleton]
    rcases hc with ⟨e1, e2, e3, e4⟩ | ⟨e1, e2, e3, e4⟩
    · rw [e2, h6 p hp q hq]
      exact ⟨Or.inl, fun w => w.resolve_right (fun z => by omega)⟩
    · by_cases ep : p = o
      · subst ep
        rw [e4, bt_or (by omega) (by omega), Bool.or_eq_true, h6 p hp q hq, decide_eq_true_iff]
        constructor
        · rintro (w | w)
          · exact Or.inl w
          · exact Or.inr (by omega)
        · rintro (w | w)
          · exact Or.inl w
          · exact Or.inr (by omega)
      · rw [e3 p ep, h6 p hp q hq]
        exact ⟨Or.inl, fun w => w.resolve_right (fun z => by omega)⟩
