theorem nI_cl {m : Nat} (h : m < 2147483648) : (nI m).toNatClampNeg = m := by
  have := ic_clN (nI_toInt (by omega) : (nI m).toInt = (m : Int)) (by omega)
  omega
theorem nI_ofC {x : Int32} (h : 0 ≤ x.toInt) : nI x.toNatClampNeg = x := (ic_inj (ic_clN rfl h).symm (by have := ic_clN (rfl : x.toInt = _) h; have := ic_rng x; omega)).symm
theorem nI_inj {a b : Nat} (ha : a < 2147483648) (hb : b < 2147483648) (h : nI a = nI b) : a = b := by
  have := congrArg Int32.toNatClampNeg h
  rw [nI_cl ha, nI_cl hb] at this
  exact this
theorem b2i_ne {b : Bool} (h : (b2i b).toInt ≠ 0) : b = true := by
  cases b
  · exact absurd rfl h
  · rfl
theorem b2i_0 {b : Bool} (h : (b2i b).toInt = 0) : b = false := by
  cases b
  · rfl
  · exact absurd h (by decide)
def cqL (c0 : Nat → Bool) (s : tS) : Nat → Bool := fun o => c0 o || ldS s o
def feL (fe0 : Int32) (c0 : Nat → Bool) (s : tS) : Int32 := fe0 + nI (cnt (fun o => ldS s o && !c0 o) 24)
theorem cqL_ld {c0 : Nat → Bool} {s : tS} {o : Nat} : va_up (cqL c0 s) o true = cqL c0 (sLd s o) := by
  funext q
  show va_up (cqL c0 s) o true q = (c0 q || va_up (ldS s) o true q)
  by_cases e : q = o
  · rw [e, va_up_self, va_up_self]; cases c0 o <;> rfl
  · rw [va_up_ne _ _ e, va_up_ne _ _ e]; rfl
theorem nI_addC (a b : Nat) : nI (a + b) = nI a + nI b := by unfold nI; exact Int32.ofNat_add a b
theorem feL_ld1 {fe0 : Int32} {c0 : Nat → Bool} {s : tS} {o : Nat} (hc : c0 o = true) : feL fe0 c0 (sLd s o) = feL fe0 c0 s := by
  unfold feL
  rw [cnt_c (p := fun q => ldS (sLd s o) q && !c0 q) (q := fun q => ldS s q && !c0 q) 24 (fun q _ => by
    show (va_up (ldS s) o true q && !c0 q) = (ldS s q && !c0 q)
    by_cases e : q = o
    · rw [e, hc]; simp
    · rw [va_up_ne _ _ e])]
theorem feL_ld0 {fe0 : Int32} {c0 : Nat → Bool} {s : tS} {o : Nat} (hc : c0 o = false) (hl : ldS s o = false) (ho : o < 24) : feL fe0 c0 (sLd s o) = feL fe0 c0 s + 1 := by
  unfold feL
  rw [cnt_c (p := fun q => ldS (sLd s o) q && !c0 q) (q := va_up (fun q => ldS s q && !c0 q) o true) 24 (fun q _ => by
    show (va_up (ldS s) o true q && !c0 q) = _
    by_cases e : q = o
    · rw [e, va_up_self, va_up_self, hc]; rfl
    · rw [va_up_ne _ _ e, va_up_ne _ _ e]), cnt_up (by show (ldS s o && !c0 o) = false; rw [hl]; rfl) 24 ho, nI_addC, Int32.add_assoc]
  rfl
theorem ask_neg {T : Nat → Nat} {s : tS} {hd j st : Nat} (h : haS s hd = -3) : ask T s hd j st = (1, s) := by unfold ask; rw [if_pos h]
theorem ask_abs {T : Nat → Nat} {s : tS} {hd j st : Nat} (h : haS s hd ≠ -3) (h2 : srt (T (hob s hd)) j = 0) : ask T s hd j st = (3, sLd s (hob s hd)) := by unfold ask; rw [if_neg h, if_pos h2]
theorem ask_cast {T : Nat → Nat} {s : tS} {hd j st : Nat} (h : haS s hd ≠ -3) (h2 : srt (T (hob s hd)) j ≠ 0) (h3 : srt (T (hob s hd)) j ≠ st) : ask T s hd j st = (2, sLd s (hob s hd)) := by unfold ask; rw [if_neg h, if_neg h2, if_neg h3]
theorem ask_yes {T : Nat → Nat} {s : tS} {hd j st : Nat} (h : haS s hd ≠ -3) (h2 : srt (T (hob s hd)) j ≠ 0) (h3 : srt (T (hob s hd)) j = st) : ask T s hd j st = (0, sLd s (hob s hd)) := by unfold ask; rw [if_neg h, if_neg h2, if_pos h3]
theorem ask_le {T : Nat → Nat} {s : tS} {hd j st : Nat} : (ask T s hd j st).1 ≤ 3 := by
  unfold ask
  split
  · show 1 ≤ 3; omega
  · show (if srt (T (hob s hd)) j = 0 then 3 else if srt (T (hob s hd)) j = st then 0 else 2) ≤ 3
    split
    · omega
    · split <;> omega
theorem sVa_id {s : tS} {x : Nat} : sVa s x (vaS s x) = s := by unfold sVa; rw [va_up_id]
theorem sHa_id {s : tS} {x : Nat} : sHa s x (haS s x) = s := by unfold sHa; rw [va_up_id]
theorem len_tc {s : tS} {c : Nat} (h : c ∉ trS s) : (trS (sTc s c)).length = (trS s).length + 1 := by
  show (tch c (trS s)).length = _
  unfold tch
  rw [if_neg h, List.length_append]
  rfl
section MRa
variable {n : Nat} {T z : Nat → Nat} {A : Nat → tA} {hg : Nat} {ver : Nat → Nat → tB} {cq : Nat → Bool} {tms : Nat → Int32} {wl : List Nat} {s : tS} {I : Nat → Nat → Int32} {J : Nat → Nat → Int64}
theorem MR.n24 (h : MR n T z A hg ver cq tms wl s I J) : n ≤ 24 := h.1.1
theorem MR.T3 (h : MR n T z A hg ver cq tms wl s I J) : ∀ o, T o < 3 := h.1.2.1
theorem MR.z32 (h : MR n T z A hg ver cq tms wl s I J) : ∀ b, z b ≤ 32 := h.1.2.2.1
theorem MR.okA (h : MR n T z A hg ver cq tms wl s I J) {k : Nat} (hv : vld z k) : okA (A k) := by
  have := h.1.2.2.2 (k / 32) (by have := hv.1; omega) (k % 32) hv.2
  rwa [show 32 * (k / 32) + k % 32 = k by omega] at this
theorem MR.ty (h : MR n T z A hg ver cq tms wl s I J) {o : Nat} (ho : o < n) : I 1 o = nI (T o) := h.2.1.1 o ho
theorem MR.ms (h : MR n T z A hg ver cq tms wl s I J) {b : Nat} (hb : b < 6) : I 9 b = nI (z b) := h.2.1.2.1 b hb
theorem MR.ac (h : MR n T z A hg ver cq tms wl s I J) {k : Nat} (hv : vld z k) : I 10 k = (A k).1 ∧ I 11 k = (A k).2.1 ∧ J 12 k = (A k).2.2.1 ∧ I 13 k = (A k).2.2.2.1 ∧ I 14 k = (A k).2.2.2.2.1 ∧ I 15 k = (A k).2.2.2.2.2 := h.2.1.2.2 k hv
theorem MR.hg40 (h : MR n T z A hg ver cq tms wl s I J) : hg ≤ 40 := h.2.2.1.1
theorem MR.okV (h : MR n T z A hg ver cq tms wl s I J) : ∀ a, a ≤ hg → ∀ o, o < n → okBd n (T o) (ver a o) := h.2.2.1.2
theorem MR.ok (h : MR n T z A hg ver cq tms wl s I J) : okS n T s := h.2.2.2.1
theorem MR.arV (h : MR n T z A hg ver cq tms wl s I J) : ∀ a, a ≤ hg → arA n T (J 3) (I 4) (I 5) a (ver a) := h.2.2.2.2.1
theorem MR.arS (h : MR n T z A hg ver cq tms wl s I J) : arA n T (J 3) (I 4) (I 5) 41 (bdS s) := h.2.2.2.2.2.1
theorem MR.cqI (h : MR n T z A hg ver cq tms wl s I J) {o : Nat} (ho : o < 24) : I 6 o = b2i (cq o) := h.2.2.2.2.2.2.1 o ho
theorem MR.ldI (h : MR n T z A hg ver cq tms wl s I J) {o : Nat} (ho : o < 24) : I 24 o = b2i (ldS s o) := h.2.2.2.2.2.2.2.1 o ho
theorem MR.tmI (h : MR n T z A hg ver cq tms wl s I J) {L : Nat} (hL : L < 192) : I 8 L = tms L := h.2.2.2.2.2.2.2.2.1 L hL
theorem MR.wl192 (h : MR n T z A hg ver cq tms wl s I J) : wl.length ≤ 192 := h.2.2.2.2.2.2.2.2.2.1.1
theorem MR.wlI (h : MR n T z A hg ver cq tms wl s I J) {i : Nat} (hi : i < wl.length) : I 23 i = nI (wl.getD i 0) := h.2.2.2.2.2.2.2.2.2.1.2 i hi
theorem MR.trI (h : MR n T z A hg ver cq tms wl s I J) {i : Nat} (hi : i < (trS s).length) : I 20 i = nI ((trS s).getD i 0 / 2) ∧ I 21 i = nI ((trS s).getD i 0 % 2) := h.2.2.2.2.2.2.2.2.2.2.1 i hi
theorem MR.haI (h : MR n T z A hg ver cq tms wl s I J) (hn0 : 0 < n) {x : Nat} (hx : x < 4) : I 26 x = haS s x := (h.2.2.2.2.2.2.2.2.2.2.2.1.resolve_right (fun q => by omega)) x hx
theorem MR.vaI (h : MR n T z A hg ver cq tms wl s I J) {x : Nat} (hx : x < 4) : J 27 x = vaS s x := h.2.2.2.2.2.2.2.2.2.2.2.2.1 x hx
theorem MR.cqn (h : MR n T z A hg ver cq tms wl s I J) : ∀ o, cq o = true → o < n := h.2.2.2.2.2.2.2.2.2.2.2.2.2
theorem MR.trB (h : MR n T z A hg ver cq tms wl s I J) {i : Nat} (hi : i < (trS s).length) : (trS s).getD i 0 < 384 := h.ok.2.2.1.2 _ (getD_mem hi)
end MRa
theorem tch_hit {lf hw : Int32} {c : Nat} (h1 : 0 ≤ lf.toInt) (h2 : 0 ≤ hw.toInt) (hc : c < 384) (e1 : nI (c / 2) = lf) (e2 : nI (c % 2) = hw) : c = 2 * lf.toNatClampNeg + hw.toNatClampNeg := by
  rw [← e1, ← e2, nI_cl (by omega), nI_cl (by omega)]
  omega
theorem tch_a {lf hw : Int32} (h1 : 0 ≤ lf.toInt) (h2 : 0 ≤ hw.toInt ∧ hw.toInt < 2) : nI ((2 * lf.toNatClampNeg + hw.toNatClampNeg) / 2) = lf := by
  have := ic_clN (rfl : hw.toInt = _) h2.1
  rw [show (2 * lf.toNatClampNeg + hw.toNatClampNeg) / 2 = lf.toNatClampNeg by omega, nI_ofC h1]
theorem tch_b {lf hw : Int32} (h1 : 0 ≤ lf.toInt) (h2 : 0 ≤ hw.toInt ∧ hw.toInt < 2) : nI ((2 * lf.toNatClampNeg + hw.toNatClampNeg) % 2) = hw := by
  have := ic_clN (rfl : hw.toInt = _) h2.1
  rw [show (2 * lf.toNatClampNeg + hw.toNatClampNeg) % 2 = hw.toNatClampNeg by omega, nI_ofC h2.1]
theorem rd_eq {s1 : tS} {hd j o : Nat} {x : Int32} (hx : x.toInt = 8 * (o : Int) + (j : Int)) (h0 : 0 ≤ x.toInt) (ho : hob s1 hd = o) : rdL s1 hd j = sTc s1 (2 * x.toNatClampNeg + (0 : Int32).toNatClampNeg) := by
  have := ic_clN (rfl : x.toInt = _) h0
  unfold rdL
  rw [ho, show (0 : Int32).toNatClampNeg = 0 from rfl, show x.toNatClampNeg = 8 * o + j by omega]
  rfl
theorem i64_m3 {v : Int64} (h : v.toInt = -3) : v = -3 := Int64.toInt_inj.mp (h.trans (by decide))
theorem iRf_1 {b : tB} {j : Nat} {v : Int64} (h : (b.1 j).toInt = -3) : iRf b j v = 1 := by unfold iRf; rw [if_pos (i64_m3 h)]
theorem iRf_y {b : tB} {j : Nat} {v : Int64} (h : (b.1 j).toInt ≠ -3) (h2 : 0 ≤ v.toInt) (h3 : v.toInt < (b.1 j).toInt) : iRf b j v = 0 := by
  unfold iRf; rw [if_neg (fun z => h (by rw [z]; decide)), if_pos ⟨h2, h3⟩]
theorem iRf_n {b : tB} {j : Nat} {v : Int64} (h : (b.1 j).toInt ≠ -3) (h2 : v.toInt < 0 ∨ (b.1 j).toInt ≤ v.toInt) : iRf b j v = 3 := by
  unfold iRf; rw [if_neg (fun z => h (by rw [z]; decide)), if_neg (by omega)]
theorem shR_1 {b1 b2 : tB} {j1 j2 : Nat} {m : Int64} (h : (b1.1 j1).toInt = -3 ∨ (b2.1 j2).toInt = -3) : shR b1 b2 j1 j2 m = 1 := by
  unfold shR; rw [if_pos (h.elim (fun q => Or.inl (i64_m3 q)) (fun q => Or.inr (i64_m3 q)))]
theorem shR_n {b1 b2 : tB} {j1 j2 : Nat} {m : Int64} (h1 : (b1.1 j1).toInt ≠ -3) (h2 : (b2.1 j2).toInt ≠ -3) (h : m.toInt < 0 ∨ (b1.1 j1).toInt < m.toInt ∨ (b2.1 j2).toInt < m.toInt) : shR b1 b2 j1 j2 m = 3 := by
  unfold shR; rw [if_neg (fun z => z.elim (fun q => h1 (by rw [q]; decide)) (fun q => h2 (by rw [q]; decide))), if_pos h]
theorem shR_y {b1 b2 : tB} {j1 j2 : Nat} {m : Int64} (h1 : (b1.1 j1).toInt ≠ -3) (h2 : (b2.1 j2).toInt ≠ -3) (h : ¬ (m.toInt < 0 ∨ (b1.1 j1).toInt < m.toInt ∨ (b2.1 j2).toInt < m.toInt)) : shR b1 b2 j1 j2 m = 0 := by
  unfold shR; rw [if_neg (fun z => z.elim (fun q => h1 (by rw [q]; decide)) (fun q => h2 (by rw [q]; decide))), if_neg h]
/-- two leaves are alike just where their bodies have the same field -/
theorem alk_iff {n t : Nat} {nu : Nat → Int64} {sz it : Nat → Int32} {a1 o1 a2 o2 j : Nat} {b1 b2 : tB} (hj : j < 8) (h1 : arO t nu sz it a1 o1 b1) (h2 : arO t nu sz it a2 o2 b2) (k1 : okBd n t b1) (k2 : okBd n t b2) : (nu (192 * a1 + 8 * o1 + j) = nu (192 * a2 + 8 * o2 + j) ∧ sz (192 * a1 + 8 * o1 + j) = sz (192 * a2 + 8 * o2 + j) ∧ ∀ i : Nat, (i : Int) < (sz (192 * a1 + 8 * o1 + j)).toInt → it (8 * (192 * a1 + 8 * o1 + j) + i) = it (8 * (192 * a2 + 8 * o2 + j) + i)) ↔ sameF t j b1 b2 := by
  obtain ⟨p1, p2, p3⟩ := h1 j hj
  obtain ⟨q1, q2, q3⟩ := h2 j hj
  rw [p1, p2, q1, q2]
  by_cases hs : srt t j = 3
  · have e1 := ((k1 j hj).2.2 hs).1
    have e2 := ((k2 j hj).2.2 hs).1
    have z1 := ((k1 j hj).2.2 hs).2
    have z2 := ((k2 j hj).2.2 hs).2
    have c1 : (b1.1 j).toInt32.toInt = (b1.1 j).toInt := ic_l2i rfl rfl (by omega) (by omega)
    have c2 : (b2.1 j).toInt32.toInt = (b2.1 j).toInt := ic_l2i rfl rfl (by omega) (by omega)
    unfold nuOf szOf sameF
    rw [if_pos hs, if_pos hs, if_pos hs, if_pos hs]
    constructor
    · rintro ⟨-, hz, hi⟩
      have hc : b1.1 j = b2.1 j := Int64.toInt_inj.mp (by rw [← c1, ← c2, hz])
      refine ⟨hc, fun _ i hi8 => ?_⟩
      by_cases hlt : (i : Int) < (b1.1 j).toInt
      · have := hi i (by omega)
        rw [p3 hs i hi8, q3 hs i hi8] at this
        exact this
      · rw [z1 i hi8 (by omega), z2 i hi8 (by rw [← hc]; omega)]
    · rintro ⟨hc, hi⟩
      refine ⟨rfl, by rw [hc], fun i hlt => ?_⟩
      have hi8 : i < 8 := by omega
      rw [p3 hs i hi8, q3 hs i hi8]
      exact hi hs i hi8
  · unfold nuOf szOf sameF
    rw [if_neg hs, if_neg hs, if_neg hs, if_neg hs]
    constructor
    · rintro ⟨hc, -, -⟩
      exact ⟨hc, fun z => absurd z hs⟩
    · rintro ⟨hc, -⟩
      exact ⟨hc, rfl, fun i hi => by have : (-3 : Int32).toInt = -3 := (by decide); omega⟩
theorem arO_sz {n t : Nat} {nu : Nat → Int64} {sz it : Nat → Int32} {a o j : Nat} {b : tB} (hj : j < 8) (h : arO t nu sz it a o b) (k : okBd n t b) : (sz (192 * a + 8 * o + j)).toInt ≤ 8 := by
  rw [(h j hj).2.1]
  unfold szOf
  split
  · rename_i hs
    have e1 := ((k j hj).2.2 hs).1
    have c1 : (b.1 j).toInt32.toInt = (b.1 j).toInt := ic_l2i rfl rfl (by omega) (by omega)
    omega
  · decide
theorem lkF_0 {t p q m j : Nat} {s : tS} (h : srt t j = 0) : lkF t p q m j s = (true, s) := by
  cases m with
  | zero => rfl
  | succ m => unfold lkF; rw [if_pos h]
theorem lkF_y {t p q m j : Nat} {s : tS} (h : srt t j ≠ 0) (h2 : sameF t j (bdS s p) (bdS s q)) : lkF t p q (m + 1) j s = lkF t p q m (j + 1) (sTc (sTc s (2 * (8 * p + j))) (2 * (8 * q + j))) := by
  conv => lhs; unfold lkF
  rw [if_neg h, if_pos (sameD_t.mpr h2)]
theorem lkF_n {t p q m j : Nat} {s : tS} (h : srt t j ≠ 0) (h2 : ¬ sameF t j (bdS s p) (bdS s q)) : lkF t p q (m + 1) j s = (false, sTc (sTc s (2 * (8 * p + j))) (2 * (8 * q + j))) := by
  conv => lhs; unfold lkF
  rw [if_neg h, if_neg (fun z => h2 (sameD_t.mp z))]
theorem srt_8 : ∀ t, t < 3 → srt t 7 = 0 ∧ srt t 6 = 0 := by decide +kernel
theorem srt_88 : ∀ t, t < 3 → srt t 8 = srt (t + 1) 0 := by intro t _; unfold srt; congr 2
theorem zr_step {g g0 : Nat → Int32} {a k : Nat} (h : ∀ x, g x = if a ≤ x ∧ x < a + k then 0 else g0 x) : ∀ x, upd g (a + k) 0 x = if a ≤ x ∧ x < a + (k + 1) then 0 else g0 x := by
  intro x
  unfold upd
  by_cases hx : x = a + k
  · rw [if_pos hx, if_pos (by omega)]
  · rw [if_neg hx, h x]
    by_cases h2 : a ≤ x ∧ x < a + k
    · rw [if_pos h2, if_pos (by omega)]
    · rw [if_neg h2, if_neg (by omega)]
