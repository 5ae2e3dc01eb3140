/-! what the reference's memory says: n objects of types T, behaviours z and A, height hg, versions ver, cached cq, times tms, written wl, and the picture s of the call (its bodies in the area of height 41) -/
def b2i (b : Bool) : Int32 := if b = true then 1 else 0
theorem b2i_t {b : Bool} : b2i b = 0 ↔ b = false := by cases b <;> decide
def nuOf (t j : Nat) (v : Int64) : Int64 := if srt t j = 3 then 0 else v
def szOf (t j : Nat) (v : Int64) : Int32 := if srt t j = 3 then v.toInt32 else -3
def arO (t : Nat) (nu : Nat → Int64) (sz it : Nat → Int32) (a o : Nat) (b : tB) : Prop := ∀ j, j < 8 → nu (192 * a + 8 * o + j) = nuOf t j (b.1 j) ∧ sz (192 * a + 8 * o + j) = szOf t j (b.1 j) ∧ (srt t j = 3 → ∀ i, i < 8 → it (8 * (192 * a + 8 * o + j) + i) = b.2 (plc j i))
def arZ (nu : Nat → Int64) (sz it : Nat → Int32) (a o : Nat) : Prop := ∀ j, j < 8 → nu (192 * a + 8 * o + j) = 0 ∧ sz (192 * a + 8 * o + j) = 0 ∧ ∀ i, i < 8 → it (8 * (192 * a + 8 * o + j) + i) = 0
def arA (n : Nat) (T : Nat → Nat) (nu : Nat → Int64) (sz it : Nat → Int32) (a : Nat) (b : Nat → tB) : Prop := (∀ o, o < n → arO (T o) nu sz it a o (b o)) ∧ ∀ o, n ≤ o → o < 24 → arZ nu sz it a o
def bsM (n : Nat) (T z : Nat → Nat) (A : Nat → tA) : Prop := n ≤ 24 ∧ (∀ o, T o < 3) ∧ (∀ b, z b ≤ 32) ∧ ∀ b, b < 6 → ∀ p, p < z b → okA (A (32 * b + p))
def acM (n : Nat) (T z : Nat → Nat) (A : Nat → tA) (I : Nat → Nat → Int32) (J : Nat → Nat → Int64) : Prop := (∀ o, o < n → I 1 o = nI (T o)) ∧ (∀ b, b < 6 → I 9 b = nI (z b)) ∧ ∀ k, vld z k → I 10 k = (A k).1 ∧ I 11 k = (A k).2.1 ∧ J 12 k = (A k).2.2.1 ∧ I 13 k = (A k).2.2.2.1 ∧ I 14 k = (A k).2.2.2.2.1 ∧ I 15 k = (A k).2.2.2.2.2
def MR (n : Nat) (T z : Nat → Nat) (A : Nat → tA) (hg : Nat) (ver : Nat → Nat → tB) (cq : Nat → Bool) (tms : Nat → Int32) (wl : List Nat) (s : tS) (I : Nat → Nat → Int32) (J : Nat → Nat → Int64) : Prop :=
  bsM n T z A ∧ acM n T z A I J ∧ (hg ≤ 40 ∧ ∀ a, a ≤ hg → ∀ o, o < n → okBd n (T o) (ver a o)) ∧ okS n T s ∧ (∀ a, a ≤ hg → arA n T (J 3) (I 4) (I 5) a (ver a)) ∧ arA n T (J 3) (I 4) (I 5) 41 (bdS s) ∧ (∀ o, o < 24 → I 6 o = b2i (cq o)) ∧ (∀ o, o < 24 → I 24 o = b2i (ldS s o)) ∧ (∀ L, L < 192 → I 8 L = tms L) ∧ (wl.length ≤ 192 ∧ ∀ i, i < wl.length → I 23 i = nI (wl.getD i 0)) ∧ (∀ i, i < (trS s).length → I 20 i = nI ((trS s).getD i 0 / 2) ∧ I 21 i = nI ((trS s).getD i 0 % 2)) ∧ ((∀ x, x < 4 → I 26 x = haS s x) ∨ (n = 0 ∧ ∀ x, x < 4 → I 26 x = 0)) ∧ (∀ x, x < 4 → J 27 x = vaS s x) ∧ ∀ o, cq o = true → o < n
def FM (G : mG) (h : Nat → Nat) (n : Nat) (T z : Nat → Nat) (A : Nat → tA) (hg : Nat) (ver : Nat → Nat → tB) (cq : Nat → Bool) (fe : Int32) (tms : Nat → Int32) (ca : Int32) (wl : List Nat) (wh : Int32) (ac th : Nat) (sx : Int32) (s : tS) (f : mF) : Prop :=
  ∃ (I : Nat → Nat → Int32) (J : Nat → Nat → Int64), MEM G h n (nI hg, fe, ca, gfS s, wh, nI (trS s).length, nI wl.length, nI ac, nI th, sx) I J f ∧ MR n T z A hg ver cq tms wl s I J ∧ ac ≤ 200 ∧ th ≤ 8
theorem nd_inj {l : List Nat} (h : l.Nodup) {i j : Nat} (hi : i < l.length) (hj : j < l.length) (e : l[i] = l[j]) : i = j := by
  have q := List.pairwise_iff_getElem.mp h
  rcases Nat.lt_trichotomy i j with z | z | z
  · exact absurd e (q i j hi hj z)
  · exact z
  · exact absurd e.symm (q j i hj hi z)
theorem len_b {l : List Nat} (h : okTc l) : l.length ≤ 384 := by
  refine inj_bound 384 l.length (fun i => l.getD i 0) (fun i hi => ?_) (fun i j hi hj e => ?_)
  · show l.getD i 0 < 384
    rw [List.getD_eq_getElem?_getD, List.getElem?_eq_getElem hi]
    exact h.2 _ (List.getElem_mem hi)
  · have e : l.getD i 0 = l.getD j 0 := e
    rw [List.getD_eq_getElem?_getD, List.getElem?_eq_getElem hi, List.getD_eq_getElem?_getD, List.getElem?_eq_getElem hj] at e
    exact nd_inj h.1 hi hj e
theorem getD_mem {l : List Nat} {i : Nat} (hi : i < l.length) : l.getD i 0 ∈ l := by
  rw [List.getD_eq_getElem?_getD, List.getElem?_eq_getElem hi]; exact List.getElem_mem hi
theorem mem_getD {l : List Nat} {c : Nat} (h : c ∈ l) : ∃ i, i < l.length ∧ l.getD i 0 = c := by
  obtain ⟨i, hi, e⟩ := List.getElem_of_mem h
  exact ⟨i, hi, by rw [List.getD_eq_getElem?_getD, List.getElem?_eq_getElem hi]; exact e⟩
theorem getD_app {l : List Nat} {c i : Nat} (hi : i < l.length) : (l ++ [c]).getD i 0 = l.getD i 0 := by
  rw [List.getD_eq_getElem?_getD, List.getD_eq_getElem?_getD, List.getElem?_append_left hi]
theorem getD_last {l : List Nat} {c : Nat} : (l ++ [c]).getD l.length 0 = c := by
  rw [List.getD_eq_getElem?_getD, List.getElem?_append_right (Nat.le_refl _), Nat.sub_self]; rfl
theorem srt_M : ∀ t : Nat, t < 3 → ∀ j : Nat, j < 8 → (((j : Int) < fldM (t : Int)) ↔ srt t j ≠ 0) ∧ (srt t j ≠ 0 → srtM (t : Int) (j : Int) + 1 = (srt t j : Int)) := by decide +kernel
section MRl
variable {n : Nat} {T z : Nat → Nat} {A : Nat → tA} {hg : Nat} {ver : Nat → Nat → tB} {cq : Nat → Bool} {tms : Nat → Int32} {wl : List Nat} {s : tS} {I : Nat → Nat → Int32} {J : Nat → Nat → Int64}
theorem MR.va (h : MR n T z A hg ver cq tms wl s I J) (x : Nat) (v : Int64) : MR n T z A hg ver cq tms wl (sVa s x v) I (va_up J 27 (vp_updL (J 27) x v)) := by
  obtain ⟨r1, r2, r3, r4, r5, r6, r7, r8, r9, r10, r11, r12, r13, r14⟩ := h
  refine ⟨r1, r2, r3, r4, r5, r6, r7, r8, r9, r10, r11, r12, fun y hy => ?_, r14⟩
  show vp_updL (J 27) x v y = va_up (vaS s) x v y
  unfold vp_updL va_up
  split
  · rfl
  · exact r13 y hy
theorem MR.ha (h : MR n T z A hg ver cq tms wl s I J) (hn0 : 0 < n) (x : Nat) {v : Int32} (hv : okHa n v) : MR n T z A hg ver cq tms wl (sHa s x v) (va_up I 26 (upd (I 26) x v)) J := by
  obtain ⟨r1, r2, r3, r4, r5, r6, r7, r8, r9, r10, r11, r12, r13, r14⟩ := h
  refine ⟨r1, r2, r3, okS_ha r4 hv, r5, r6, r7, r8, r9, r10, r11, Or.inl (fun y hy => ?_), r13, r14⟩
  show upd (I 26) x v y = va_up (haS s) x v y
  unfold upd va_up
  split
  · rfl
  · exact (r12.resolve_right (fun q => by omega)) y hy
theorem MR.gf (h : MR n T z A hg ver cq tms wl s I J) (v : Int64) : MR n T z A hg ver cq tms wl (sGf s v) I J := h
/-- a number or a link of an object gets new contents, as the call sees it -/
theorem arA_nu {nu : Nat → Int64} {sz it : Nat → Int32} {b : Nat → tB} {o j : Nat} {v : Int64} (hn : n ≤ 24) (h : arA n T nu sz it 41 b) (ho : o < n) (hj : j < 8) (hs : srt (T o) j ≠ 3) : arA n T (vp_updL nu (192 * 41 + 8 * o + j) v) sz it 41 (va_up b o (setC (b o) j v)) := by
  refine ⟨fun q hq i hi => ?_, fun q hq hq2 i hi => ?_⟩
  · have hh := h.1 q hq i hi
    by_cases e : q = o
    · subst e
      rw [va_up_self]
      show vp_updL nu _ v _ = nuOf (T q) i (va_up (b q).1 j v i) ∧ sz _ = szOf (T q) i (va_up (b q).1 j v i) ∧ _
      by_cases e2 : i = j
      · subst e2
        rw [va_up_self]
        refine ⟨?_, ?_, hh.2.2⟩
        · unfold vp_updL nuOf; rw [if_pos rfl, if_neg hs]
        · rw [hh.2.1]; unfold szOf; rw [if_neg hs, if_neg hs]
      · rw [va_up_ne _ _ e2]
        refine ⟨?_, hh.2⟩
        unfold vp_updL; rw [if_neg (by omega)]; exact hh.1
    · rw [va_up_ne _ _ e]
      refine ⟨?_, hh.2⟩
      unfold vp_updL; rw [if_neg (by omega)]; exact hh.1
  · have hh := h.2 q hq hq2 i hi
    refine ⟨?_, hh.2⟩
    unfold vp_updL; rw [if_neg (by omega)]; exact hh.1
theorem arA_nuX {nu : Nat → Int64} {sz it : Nat → Int32} {b : Nat → tB} {a L : Nat} {v : Int64} (h : arA n T nu sz it a b) (ha : a ≤ 40) (hn : n ≤ 24) (hL : 7872 ≤ L) : arA n T (vp_updL nu L v) sz it a b :=
  ⟨fun q hq i hi => ⟨by unfold vp_updL; rw [if_neg (by omega)]; exact (h.1 q hq i hi).1, (h.1 q hq i hi).2⟩, fun q hq hq2 i hi => ⟨by unfold vp_updL; rw [if_neg (by omega)]; exact (h.2 q hq hq2 i hi).1, (h.2 q hq hq2 i hi).2⟩⟩
theorem MR.nu (h : MR n T z A hg ver cq tms wl s I J) {o j : Nat} {v : Int64} (ho : o < n) (hj : j < 8) (hs : srt (T o) j ≠ 3) (hok : okBd n (T o) (setC (bdS s o) j v)) : MR n T z A hg ver cq tms wl (sBd s o (setC (bdS s o) j v)) I (va_up J 3 (vp_updL (J 3) (192 * 41 + 8 * o + j) v)) := by
  obtain ⟨r1, r2, r3, r4, r5, r6, r7, r8, r9, r10, r11, r12, r13, r14⟩ := h
  exact ⟨r1, r2, r3, okS_bd r4 hok, fun a ha => arA_nuX (r5 a ha) (by omega) r1.1 (by omega), arA_nu r1.1 r6 ho hj hs, r7, r8, r9, r10, r11, r12, r13, r14⟩
/-- rows: a size, the items of a block -/
theorem arA_blk {nu : Nat → Int64} {sz it sz2 it2 : Nat → Int32} {b : Nat → tB} {o j : Nat} {b2 : tB} (hn : n ≤ 24) (h : arA n T nu sz it 41 b) (ho : o < n) (hj : j < 8) (hT : T o < 3) (hs : srt (T o) j = 3)
    (hz : ∀ L, L ≠ 192 * 41 + 8 * o + j → sz2 L = sz L) (hi2 : ∀ x, (x < 8 * (192 * 41 + 8 * o + j) ∨ 8 * (192 * 41 + 8 * o + j) + 8 ≤ x) → it2 x = it x) (c1 : ∀ i, i < 8 → i ≠ j → b2.1 i = (b o).1 i) (c2 : sz2 (192 * 41 + 8 * o + j) = (b2.1 j).toInt32) (c3 : ∀ i, i < 8 → it2 (8 * (192 * 41 + 8 * o + j) + i) = b2.2 (plc j i)) (c4 : ∀ q, q < 8 → q ≠ j → srt (T o) q = 3 → ∀ i, i < 8 → b2.2 (plc q i) = (b o).2 (plc q i)) : arA n T nu sz2 it2 41 (va_up b o b2) := by
  refine ⟨fun q hq i hi => ?_, fun q hq hq2 i hi => ?_⟩
  · have hh := h.1 q hq i hi
    by_cases e : q = o
    · subst e
      rw [va_up_self]
      by_cases e2 : i = j
      · subst e2
        refine ⟨?_, ?_, fun _ y hy => c3 y hy⟩
        · rw [hh.1]; unfold nuOf; rw [if_pos hs, if_pos hs]
        · rw [c2]; unfold szOf; rw [if_pos hs]
      · refine ⟨by rw [c1 i hi e2]; exact hh.1, by rw [c1 i hi e2, hz _ (by omega)]; exact hh.2.1, fun h3 y hy => ?_⟩
        rw [hi2 _ (by omega), c4 i hi e2 h3 y hy]; exact hh.2.2 h3 y hy
    · rw [va_up_ne _ _ e]
      exact ⟨hh.1, by rw [hz _ (by omega)]; exact hh.2.1, fun h3 y hy => by rw [hi2 _ (by omega)]; exact hh.2.2 h3 y hy⟩
  · have hh := h.2 q hq hq2 i hi
    exact ⟨hh.1, by rw [hz _ (by omega)]; exact hh.2.1, fun y hy => by rw [hi2 _ (by omega)]; exact hh.2.2 y hy⟩
theorem arA_blkX {nu : Nat → Int64} {sz it sz2 it2 : Nat → Int32} {b : Nat → tB} {a : Nat} (h : arA n T nu sz it a b) (ha : a ≤ 40) (hn : n ≤ 24) (hz : ∀ L, L < 7872 → sz2 L = sz L) (hi2 : ∀ x, x < 62976 → it2 x = it x) : arA n T nu sz2 it2 a b :=
  ⟨fun q hq i hi => ⟨(h.1 q hq i hi).1, by rw [hz _ (by omega)]; exact (h.1 q hq i hi).2.1, fun h3 y hy => by rw [hi2 _ (by omega)]; exact (h.1 q hq i hi).2.2 h3 y hy⟩, fun q hq hq2 i hi => ⟨(h.2 q hq hq2 i hi).1, by rw [hz _ (by omega)]; exact (h.2 q hq hq2 i hi).2.1, fun y hy => by rw [hi2 _ (by omega)]; exact (h.2 q hq hq2 i hi).2.2 y hy⟩⟩
theorem MR.it (h : MR n T z A hg ver cq tms wl s I J) {o j i : Nat} {v : Int32} (ho : o < n) (hj : j < 8) (hs : srt (T o) j = 3) (hi : i < 8) (hlt : (i : Int) < ((bdS s o).1 j).toInt) : MR n T z A hg ver cq tms wl (sBd s o (setM (bdS s o) (plc j i) v)) (va_up I 5 (upd (I 5) (8 * (192 * 41 + 8 * o + j) + i) v)) J := by
  obtain ⟨r1, r2, r3, r4, r5, r6, r7, r8, r9, r10, r11, r12, r13, r14⟩ := h
  have hT := r1.2.1 o
  refine ⟨r1, r2, r3, okS_bd r4 (okBd_M hT hj (r4.1 o ho) hs hi hlt), fun a ha => arA_blkX (sz := I 4) (it := I 5) (r5 a ha) (by omega) r1.1 (fun _ _ => rfl) (fun x hx => upd_far (by omega)), arA_blk (sz := I 4) (it := I 5) r1.1 r6 ho hj hT hs (fun _ _ => rfl) (fun x hx => upd_far (by omega)) (fun _ _ _ => rfl) ?_ (fun y hy => ?_) (fun q hq hne h3 y hy => ?_), r7, r8, r9, r10, r11, r12, r13, r14⟩
  · have := (r6.1 o ho j hj).2.1
    rw [show szOf (T o) j ((bdS s o).1 j) = ((bdS s o).1 j).toInt32 from if_pos hs] at this
    exact this
  · show upd (I 5) _ v _ = va_up (bdS s o).2 (plc j i) v (plc j y)
    unfold upd va_up
    by_cases e : y = i
    · subst e; rw [if_pos rfl, if_pos rfl]
    · rw [if_neg (by omega), if_neg (fun q => e (plc_inj q))]
      exact (r6.1 o ho j hj).2.2 hs y hy
  · show va_up (bdS s o).2 (plc j i) v (plc q y) = _
    exact va_up_ne _ _ (plc_ne (T o) hT q hq j hj h3 hs hne y hy i hi)
theorem MR.row (h : MR n T z A hg ver cq tms wl s I J) {o j : Nat} {v : Int64} {sz2 it2 : Nat → Int32} (ho : o < n) (hj : j < 8) (hs : srt (T o) j = 3) (hv : v.toInt = -3 ∨ (0 ≤ v.toInt ∧ v.toInt ≤ 8)) (hz : sz2 = upd (I 4) (192 * 41 + 8 * o + j) v.toInt32) (hi2 : ∀ x, it2 x = if 8 * (192 * 41 + 8 * o + j) ≤ x ∧ x < 8 * (192 * 41 + 8 * o + j) + 8 then 0 else I 5 x) : MR n T z A hg ver cq tms wl (sBd s o (renB (bdS s o) j v)) (va_up (va_up I 4 sz2) 5 it2) J := by
  obtain ⟨r1, r2, r3, r4, r5, r6, r7, r8, r9, r10, r11, r12, r13, r14⟩ := h
  have hT := r1.2.1 o
  refine ⟨r1, r2, r3, okS_bd r4 (okBd_ren hT hj (r4.1 o ho) hs hv), fun a ha => arA_blkX (sz := I 4) (it := I 5) (r5 a ha) (by omega) r1.1 (fun L hL => by show sz2 L = _; rw [hz]; exact upd_far (by omega)) (fun x hx => by show it2 x = _; rw [hi2, if_neg (by omega)]), arA_blk (sz := I 4) (it := I 5) r1.1 r6 ho hj hT hs (fun L hL => by show sz2 L = _; rw [hz]; unfold upd; rw [if_neg hL]) (fun x hx => by show it2 x = _; rw [hi2, if_neg (by omega)]) (fun i hi hne => va_up_ne _ _ hne) ?_ (fun y hy => ?_) (fun q hq hne h3 y hy => ?_), r7, r8, r9, r10, r11, r12, r13, r14⟩
  · show sz2 _ = (va_up (bdS s o).1 j v j).toInt32
    rw [hz, va_up_self]; unfold upd; rw [if_pos rfl]
  · show it2 _ = (if plc j 0 ≤ plc j y ∧ plc j y < plc j 0 + 8 then (0 : Int32) else _)
    rw [hi2, if_pos (by omega), if_pos (by unfold plc; omega)]
  · show (if plc j 0 ≤ plc q y ∧ plc q y < plc j 0 + 8 then (0 : Int32) else (bdS s o).2 (plc q y)) = _
    rw [if_neg (fun z => by
      have := plc_ne (T o) hT q hq j hj h3 hs hne y hy (plc q y - plc j 0) (by omega)
      unfold plc at this z; omega)]
theorem MR.cpy (h : MR n T z A hg ver cq tms wl s I J) {o1 j1 o j m : Nat} {it2 : Nat → Int32} (ho1 : o1 < n) (hj1 : j1 < 8) (hs1 : srt (T o1) j1 = 3) (ho : o < n) (hj : j < 8) (hs : srt (T o) j = 3) (hm : (m : Int) ≤ ((bdS s o).1 j).toInt) (hm8 : m ≤ 8) (hi2 : it2 = va_cpy (I 5) (I 5) (8 * (192 * 41 + 8 * o1 + j1)) (8 * (192 * 41 + 8 * o + j)) m) : MR n T z A hg ver cq tms wl (sBd s o (cpyM (bdS s o1) (bdS s o) j1 j m)) (va_up I 5 it2) J := by
  obtain ⟨r1, r2, r3, r4, r5, r6, r7, r8, r9, r10, r11, r12, r13, r14⟩ := h
  have hT := r1.2.1 o
  have hI2 : ∀ x, (x < 8 * (192 * 41 + 8 * o + j) ∨ 8 * (192 * 41 + 8 * o + j) + m ≤ x) → it2 x = I 5 x := fun x hx => by rw [hi2]; exact cpy_out hx
  refine ⟨r1, r2, r3, okS_bd r4 (okBd_cpy (t1 := 0) hT hj (r4.1 o ho) hs hm), fun a ha => arA_blkX (sz := I 4) (it := I 5) (r5 a ha) (by omega) r1.1 (fun _ _ => rfl) (fun x hx => hI2 x (by omega)), arA_blk (sz := I 4) (it := I 5) r1.1 r6 ho hj hT hs (fun _ _ => rfl) (fun x hx => hI2 x (by omega)) (fun _ _ _ => rfl) ?_ (fun y hy => ?_) (fun q hq hne h3 y hy => ?_), r7, r8, r9, r10, r11, r12, r13, r14⟩
  · have := (r6.1 o ho j hj).2.1
    rw [show szOf (T o) j ((bdS s o).1 j) = ((bdS s o).1 j).toInt32 from if_pos hs] at this
    exact this
  · show it2 _ = (if plc j 0 ≤ plc j y ∧ plc j y < plc j 0 + m then (bdS s o1).2 (plc j1 0 + (plc j y - plc j 0)) else (bdS s o).2 (plc j y))
    by_cases hy2 : y < m
    · rw [if_pos (by unfold plc; omega), hi2, cpy_at hy2, show plc j1 0 + (plc j y - plc j 0) = plc j1 y from by unfold plc; omega]
      exact (r6.1 o1 ho1 j1 hj1).2.2 hs1 y (by omega)
    · rw [if_neg (by unfold plc; omega), hI2 _ (by omega)]
      exact (r6.1 o ho j hj).2.2 hs y hy
  · show (if plc j 0 ≤ plc q y ∧ plc q y < plc j 0 + m then _ else (bdS s o).2 (plc q y)) = _
    rw [if_neg (fun z => by
      have := plc_ne (T o) hT q hq j hj h3 hs hne y hy (plc q y - plc j 0) (by omega)
      unfold plc at this z; omega)]
/-- reading the area of the call -/
theorem MR.gnu (h : MR n T z A hg ver cq tms wl s I J) {o j : Nat} (ho : o < n) (hj : j < 8) (hs : srt (T o) j ≠ 3) : J 3 (192 * 41 + 8 * o + j) = (bdS s o).1 j := by
  have := (h.2.2.2.2.2.1.1 o ho j hj).1
  rw [this]; unfold nuOf; rw [if_neg hs]
theorem MR.gsz (h : MR n T z A hg ver cq tms wl s I J) {o j : Nat} (ho : o < n) (hj : j < 8) (hs : srt (T o) j = 3) : (I 4 (192 * 41 + 8 * o + j)).toInt = ((bdS s o).1 j).toInt := by
  have := (h.2.2.2.2.2.1.1 o ho j hj).2.1
  rw [this]; unfold szOf; rw [if_pos hs]
  have hb := ((h.2.2.2.1.1 o ho j hj).2.2 hs).1
  exact ic_l2i rfl rfl (by omega) (by omega)
theorem MR.git (h : MR n T z A hg ver cq tms wl s I J) {o j i : Nat} (ho : o < n) (hj : j < 8) (hs : srt (T o) j = 3) (hi : i < 8) : I 5 (8 * (192 * 41 + 8 * o + j) + i) = (bdS s o).2 (plc j i) := (h.2.2.2.2.2.1.1 o ho j hj).2.2 hs i hi
/-- touching -/
theorem MR.tc1 (h : MR n T z A hg ver cq tms wl s I J) {c : Nat} (hc : c < 384) (hn : c ∉ trS s) {g20 g21 : Nat → Int32} (e20 : g20 = upd (I 20) (trS s).length (nI (c / 2))) (e21 : g21 = upd (I 21) (trS s).length (nI (c % 2))) : MR n T z A hg ver cq tms wl (sTc s c) (va_up (va_up I 20 g20) 21 g21) J := by
  obtain ⟨r1, r2, r3, r4, r5, r6, r7, r8, r9, r10, r11, r12, r13, r14⟩ := h
  have et : trS (sTc s c) = trS s ++ [c] := if_neg hn
  refine ⟨r1, r2, r3, okS_tc r4 hc, r5, r6, r7, r8, r9, r10, fun i hi => ?_, r12, r13, r14⟩
  rw [et] at hi ⊢
  rw [List.length_append] at hi
  have hi : i < (trS s).length + 1 := hi
  show g20 i = _ ∧ g21 i = _
  rw [e20, e21]
  by_cases e : i = (trS s).length
  · subst e
    rw [getD_last]
    unfold upd
    exact ⟨if_pos rfl, if_pos rfl⟩
  · rw [getD_app (by omega)]
    unfold upd
    rw [if_neg e, if_neg e]
    exact r11 i (by omega)
/-- loading -/
theorem sLd_id {s : tS} {o : Nat} (h : ldS s o = true) : sLd s o = s := by
  unfold sLd
  have : va_up (ldS s) o true = ldS s := by
    funext q
    by_cases e : q = o
    · rw [e, va_up_self, h]
    · exact va_up_ne _ _ e
  rw [this]
theorem sTc_id {s : tS} {c : Nat} (h : c ∈ trS s) : sTc s c = s := by
  unfold sTc tch
  rw [if_pos h]
theorem MR.ld (h : MR n T z A hg ver cq tms wl s I J) {o : Nat} (ho : o < n) : MR n T z A hg ver (va_up cq o true) tms wl (sLd s o) (va_up (va_up I 24 (upd (I 24) o 1)) 6 (upd (I 6) o 1)) J := by
  obtain ⟨r1, r2, r3, r4, r5, r6, r7, r8, r9, r10, r11, r12, r13, r14⟩ := h
  refine ⟨r1, r2, r3, okS_ld r4 ho, r5, r6, fun q hq => ?_, fun q hq => ?_, r9, r10, r11, r12, r13, fun q hq => ?_⟩
  · show upd (I 6) o 1 q = b2i (va_up cq o true q)
    unfold upd va_up
    split
    · rfl
    · exact r7 q hq
  · show upd (I 24) o 1 q = b2i (va_up (ldS s) o true q)
    unfold upd va_up
    split
    · rfl
    · exact r8 q hq
  · by_cases e : q = o
    · rw [e]; exact ho
    · rw [va_up_ne _ _ e] at hq; exact r14 q hq
end MRl
