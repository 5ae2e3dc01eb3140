/-! a height's area is copied -/
section CPA
variable {n : Nat} {T : Nat → Nat} {nu : Nat → Int64} {sz it : Nat → Int32} {a c x : Nat} {b : Nat → tB}
theorem arA_cp (hn : n ≤ 24) (h : arA n T nu sz it a b) : arA n T (va_cpy nu nu (192 * a) (192 * c) 192) (va_cpy sz sz (192 * a) (192 * c) 192) (va_cpy it it (1536 * a) (1536 * c) (8 * 192)) c b := by
  have e1 : ∀ {α : Type} (g : Nat → α) (o j : Nat), o < 24 → j < 8 → va_cpy g g (192 * a) (192 * c) 192 (192 * c + 8 * o + j) = g (192 * a + 8 * o + j) := fun g o j ho hj => by
    rw [show 192 * c + 8 * o + j = 192 * c + (8 * o + j) by omega, cpy_at (by omega), show 192 * a + (8 * o + j) = 192 * a + 8 * o + j by omega]
  have e2 : ∀ (o j i : Nat), o < 24 → j < 8 → i < 8 → va_cpy it it (1536 * a) (1536 * c) (8 * 192) (8 * (192 * c + 8 * o + j) + i) = it (8 * (192 * a + 8 * o + j) + i) := fun o j i ho hj hi => by
    rw [show 8 * (192 * c + 8 * o + j) + i = 1536 * c + (8 * (8 * o + j) + i) by omega, cpy_at (by omega), show 1536 * a + (8 * (8 * o + j) + i) = 8 * (192 * a + 8 * o + j) + i by omega]
  refine ⟨fun o ho j hj => ?_, fun o ho ho2 j hj => ?_⟩
  · rw [e1 nu o j (by omega) hj, e1 sz o j (by omega) hj]
    exact ⟨(h.1 o ho j hj).1, (h.1 o ho j hj).2.1, fun hs i hi => by rw [e2 o j i (by omega) hj hi]; exact (h.1 o ho j hj).2.2 hs i hi⟩
  · rw [e1 nu o j ho2 hj, e1 sz o j ho2 hj]
    exact ⟨(h.2 o ho ho2 j hj).1, (h.2 o ho ho2 j hj).2.1, fun i hi => by rw [e2 o j i ho2 hj hi]; exact (h.2 o ho ho2 j hj).2.2 i hi⟩
theorem arA_cpX (hn : n ≤ 24) (hx : x ≠ c) (h : arA n T nu sz it x b) : arA n T (va_cpy nu nu (192 * a) (192 * c) 192) (va_cpy sz sz (192 * a) (192 * c) 192) (va_cpy it it (1536 * a) (1536 * c) (8 * 192)) x b := by
  have e1 : ∀ {α : Type} (g : Nat → α) (o j : Nat), o < 24 → j < 8 → va_cpy g g (192 * a) (192 * c) 192 (192 * x + 8 * o + j) = g (192 * x + 8 * o + j) := fun g o j ho hj => cpy_out (by omega)
  have e2 : ∀ (o j i : Nat), o < 24 → j < 8 → i < 8 → va_cpy it it (1536 * a) (1536 * c) (8 * 192) (8 * (192 * x + 8 * o + j) + i) = it (8 * (192 * x + 8 * o + j) + i) := fun o j i ho hj hi => cpy_out (by omega)
  refine ⟨fun o ho j hj => ?_, fun o ho ho2 j hj => ?_⟩
  · rw [e1 nu o j (by omega) hj, e1 sz o j (by omega) hj]
    exact ⟨(h.1 o ho j hj).1, (h.1 o ho j hj).2.1, fun hs i hi => by rw [e2 o j i (by omega) hj hi]; exact (h.1 o ho j hj).2.2 hs i hi⟩
  · rw [e1 nu o j ho2 hj, e1 sz o j ho2 hj]
    exact ⟨(h.2 o ho ho2 j hj).1, (h.2 o ho ho2 j hj).2.1, fun i hi => by rw [e2 o j i ho2 hj hi]; exact (h.2 o ho ho2 j hj).2.2 i hi⟩
end CPA
/-- other bodies -/
def sAll (s : tS) (b : Nat → tB) : tS := (b, ldS s, haS s, vaS s, trS s, gfS s)
theorem okS_all {n : Nat} {T : Nat → Nat} {s : tS} {b : Nat → tB} (h : okS n T s) (hb : ∀ o, o < n → okBd n (T o) (b o)) : okS n T (sAll s b) := ⟨hb, h.2⟩
section MRc
variable {n : Nat} {T z : Nat → Nat} {A : Nat → tA} {hg : Nat} {ver : Nat → Nat → tB} {cq : Nat → Bool} {tms : Nat → Int32} {wl : List Nat} {s : tS} {I : Nat → Nat → Int32} {J : Nat → Nat → Int64}
theorem MR.toAT (h : MR n T z A hg ver cq tms wl s I J) : MR n T z A hg ver cq tms wl (sAll s (ver hg)) (va_up (va_up I 4 (va_cpy (I 4) (I 4) (192 * hg) (192 * 41) 192)) 5 (va_cpy (I 5) (I 5) (1536 * hg) (1536 * 41) (8 * 192))) (va_up J 3 (va_cpy (J 3) (J 3) (192 * hg) (192 * 41) 192)) := by
  obtain ⟨r1, r2, r3, r4, r5, r6, r7, r8, r9, r10, r11, r12, r13, r14⟩ := h
  have h40 := r3.1
  exact ⟨r1, r2, r3, okS_all r4 (r3.2 hg (Nat.le_refl _)), fun a ha => arA_cpX r1.1 (by omega) (r5 a ha), arA_cp r1.1 (r5 hg (Nat.le_refl _)), r7, r8, r9, r10, r11, r12, r13, r14⟩
theorem MR.rise (h : MR n T z A hg ver cq tms wl s I J) (h39 : hg ≤ 39) {g6 : Nat → Int32} (h6 : ∀ o, o < 24 → g6 o = 0) : MR n T z A (hg + 1) (va_up ver (hg + 1) (bdS s)) (fun _ => false) tms wl s (va_up (va_up (va_up I 4 (va_cpy (I 4) (I 4) (192 * 41) (192 * (hg + 1)) 192)) 5 (va_cpy (I 5) (I 5) (1536 * 41) (1536 * (hg + 1)) (8 * 192))) 6 g6) (va_up J 3 (va_cpy (J 3) (J 3) (192 * 41) (192 * (hg + 1)) 192)) := by
  obtain ⟨r1, r2, r3, r4, r5, r6, r7, r8, r9, r10, r11, r12, r13, r14⟩ := h
  refine ⟨r1, r2, ⟨by omega, fun a ha o ho => ?_⟩, r4, fun a ha => ?_, arA_cpX r1.1 (by omega) r6, fun o ho => h6 o ho, r8, r9, r10, r11, r12, r13, fun o h_ => by cases h_⟩
  · by_cases e : a = hg + 1
    · subst e; rw [va_up_self]; exact r4.1 o ho
    · rw [va_up_ne _ _ e]; exact r3.2 a (by omega) o ho
  · by_cases e : a = hg + 1
    · rw [e, show va_up ver (hg + 1) (bdS s) (hg + 1) = bdS s from va_up_self _ _ _]; exact arA_cp r1.1 r6
    · rw [show va_up ver (hg + 1) (bdS s) a = ver a from va_up_ne _ _ e]; exact arA_cpX r1.1 e (r5 a (by omega))
/-- a call begins -/
def s0C (b : Nat → tB) (o : Int32) (v : Int64) : tS := (b, fun _ => false, fun x => if x = 0 then o else -3, fun x => if x = 0 then v else 0, [], 0)
theorem okS_0 {b : Nat → tB} {o : Int32} {v : Int64} (hb : ∀ o, o < n → okBd n (T o) (b o)) (ho : okHa n o) : okS n T (s0C b o v) := ⟨hb, fun x _ => by
  show okHa n (if x = 0 then o else -3)
  split
  · exact ho
  · exact Or.inl (by decide), ⟨List.nodup_nil, fun c h => absurd h List.not_mem_nil⟩, fun o h => by cases h⟩
theorem MR.beg (h : MR n T z A hg ver cq tms wl s I J) {o : Int32} {v : Int64} {g24 g26 : Nat → Int32} {g27 : Nat → Int64} (ho : okHa n o) (h24 : ∀ q, q < 24 → g24 q = 0) (h26 : ∀ x, x < 4 → g26 x = if x = 0 then o else -3) (h27 : ∀ x, x < 4 → g27 x = if x = 0 then v else 0) : MR n T z A hg ver cq tms [] (s0C (bdS s) o v) (va_up (va_up I 24 g24) 26 g26) (va_up J 27 g27) := by
  obtain ⟨r1, r2, r3, r4, r5, r6, r7, r8, r9, r10, r11, r12, r13, r14⟩ := h
  exact ⟨r1, r2, r3, okS_0 r4.1 ho, r5, r6, r7, fun q hq => h24 q hq, r9, ⟨Nat.zero_le _, fun i hi => absurd hi (Nat.not_lt_zero i)⟩, fun i hi => absurd hi (Nat.not_lt_zero i), Or.inl h26, h27, r14⟩
end MRc
/-! what a call has written -/
noncomputable def dif (n : Nat) (T : Nat → Nat) (b0 b1 : Nat → tB) (L : Nat) : Bool := decide (L / 8 < n) && !sameD (T (L / 8)) (L % 8) (b1 (L / 8)) (b0 (L / 8))
def wls (p : Nat → Bool) : Nat → List Nat
  | 0 => []
  | m + 1 => if p m = true then wls p m ++ [m] else wls p m
theorem wls_len (p : Nat → Bool) : ∀ m, (wls p m).length ≤ m
  | 0 => Nat.le_refl 0
  | m + 1 => by
    have := wls_len p m
    show (if p m = true then wls p m ++ [m] else wls p m).length ≤ m + 1
    split
    · rw [List.length_append]; show (wls p m).length + 1 ≤ m + 1; omega
    · omega
theorem wls_1 {p : Nat → Bool} {m : Nat} (h : p m = true) : wls p (m + 1) = wls p m ++ [m] := if_pos h
theorem wls_0 {p : Nat → Bool} {m : Nat} (h : p m = false) : wls p (m + 1) = wls p m := if_neg (by rw [h]; simp)
theorem wls_mem {p : Nat → Bool} {c : Nat} : ∀ m, c ∈ wls p m ↔ c < m ∧ p c = true
  | 0 => ⟨fun h => absurd h List.not_mem_nil, fun h => absurd h.1 (Nat.not_lt_zero c)⟩
  | m + 1 => by
    by_cases h : p m = true
    · rw [wls_1 h, List.mem_append, List.mem_singleton, wls_mem m]
      constructor
      · rintro (q | q)
        · exact ⟨by omega, q.2⟩
        · subst q; exact ⟨by omega, h⟩
      · intro q
        by_cases e : c = m
        · exact Or.inr e
        · exact Or.inl ⟨by omega, q.2⟩
    · have h0 : p m = false := by cases hp : p m with | true => exact absurd hp h | false => rfl
      rw [wls_0 h0, wls_mem m]
      constructor
      · exact fun q => ⟨by omega, q.2⟩
      · exact fun q => ⟨by have : c ≠ m := (fun e => by rw [e] at q; exact h q.2); omega, q.2⟩
def tmS (tms : Nat → Int32) (p : Nat → Bool) (m : Nat) : Nat → Int32 := fun L => if L < m ∧ p L = true then tms L + 1 else tms L
theorem tmS_0 {tms : Nat → Int32} {p : Nat → Bool} : tmS tms p 0 = tms := by funext L; unfold tmS; rw [if_neg (by omega)]
theorem tmS_s {tms : Nat → Int32} {p : Nat → Bool} {m : Nat} (h : p m = false) : tmS tms p (m + 1) = tmS tms p m := by
  funext L
  unfold tmS
  by_cases q : L < m ∧ p L = true
  · rw [if_pos q, if_pos ⟨by omega, q.2⟩]
  · rw [if_neg q, if_neg (fun w => q ⟨by have : L ≠ m := (fun e => by rw [e, h] at w; cases w.2); omega, w.2⟩)]
theorem tmS_u {tms : Nat → Int32} {p : Nat → Bool} {m : Nat} (h : p m = true) : upd (tmS tms p m) m (tmS tms p m m + 1) = tmS tms p (m + 1) := by
  funext L
  unfold upd
  by_cases e : L = m
  · subst e
    rw [if_pos rfl]
    unfold tmS
    rw [if_neg (by omega), if_pos ⟨by omega, h⟩]
  · rw [if_neg e]
    unfold tmS
    by_cases q : L < m ∧ p L = true
    · rw [if_pos q, if_pos ⟨by omega, q.2⟩]
    · rw [if_neg q, if_neg (fun w => q ⟨by omega, w.2⟩)]
section MRw
variable {n : Nat} {T z : Nat → Nat} {A : Nat → tA} {hg : Nat} {ver : Nat → Nat → tB} {cq : Nat → Bool} {tms : Nat → Int32} {wl : List Nat} {s : tS} {I : Nat → Nat → Int32} {J : Nat → Nat → Int64}
theorem MR.wr (h : MR n T z A hg ver cq tms wl s I J) {c : Nat} {tms2 : Nat → Int32} {g8 g23 : Nat → Int32} (hl : wl.length < 192) (e23 : g23 = upd (I 23) wl.length (nI c)) (h8 : ∀ L, L < 192 → g8 L = tms2 L) : MR n T z A hg ver cq tms2 (wl ++ [c]) s (va_up (va_up I 23 g23) 8 g8) J := by
  obtain ⟨r1, r2, r3, r4, r5, r6, r7, r8, r9, r10, r11, r12, r13, r14⟩ := h
  refine ⟨r1, r2, r3, r4, r5, r6, r7, r8, fun L hL => h8 L hL, ⟨by rw [List.length_append]; show wl.length + 1 ≤ 192; omega, fun i hi => ?_⟩, r11, r12, r13, r14⟩
  rw [List.length_append] at hi
  have hi : i < wl.length + 1 := hi
  show g23 i = _
  rw [e23]
  by_cases e : i = wl.length
  · subst e
    rw [getD_last]
    unfold upd
    exact if_pos rfl
  · rw [getD_app (by omega)]
    unfold upd
    rw [if_neg e]
    exact r10.2 i (by omega)
/-- whether a leaf is as it was, by what the reference compares -/
theorem MR.alk (h : MR n T z A hg ver cq tms wl s I J) {L : Nat} (hL : L < 192) : (J 3 (192 * 41 + L) = J 3 (192 * hg + L) ∧ I 4 (192 * 41 + L) = I 4 (192 * hg + L) ∧ ∀ i : Nat, (i : Int) < (I 4 (192 * 41 + L)).toInt → I 5 (8 * (192 * 41 + L) + i) = I 5 (8 * (192 * hg + L) + i)) ↔ dif n T (ver hg) (bdS s) L = false := by
  have hn := h.n24
  have e1 : ∀ q, 192 * q + L = 192 * q + 8 * (L / 8) + L % 8 := fun q => by omega
  rw [e1 41, e1 hg]
  unfold dif
  by_cases ho : L / 8 < n
  · rw [alk_iff (n := n) (by omega) (h.arS.1 _ ho) ((h.arV hg (Nat.le_refl _)).1 _ ho) (h.ok.1 _ ho) (h.okV hg (Nat.le_refl _) _ ho)]
    rw [← sameD_t]
    simp [ho]
  · have z1 := h.arS.2 (L / 8) (by omega) (by omega) (L % 8) (by omega)
    have z2 := (h.arV hg (Nat.le_refl _)).2 (L / 8) (by omega) (by omega) (L % 8) (by omega)
    rw [z1.1, z1.2.1, z2.1, z2.2.1]
    have : (0 : Int32).toInt = 0 := rfl
    constructor
    · intro _; simp [ho]
    · intro _; exact ⟨rfl, rfl, fun i hi => by omega⟩
theorem MR.sz8 (h : MR n T z A hg ver cq tms wl s I J) {L : Nat} (hL : L < 192) : (I 4 (192 * 41 + L)).toInt ≤ 8 := by
  have hn := h.n24
  rw [show 192 * 41 + L = 192 * 41 + 8 * (L / 8) + L % 8 by omega]
  by_cases ho : L / 8 < n
  · exact arO_sz (n := n) (by omega) (h.arS.1 _ ho) (h.ok.1 _ ho)
  · rw [(h.arS.2 (L / 8) (by omega) (by omega) (L % 8) (by omega)).2.1]; decide
theorem MR.wl0 (h : MR n T z A hg ver cq tms wl s I J) : MR n T z A hg ver cq tms [] s I J := ⟨h.1, h.2.1, h.2.2.1, h.2.2.2.1, h.2.2.2.2.1, h.2.2.2.2.2.1, h.2.2.2.2.2.2.1, h.2.2.2.2.2.2.2.1, h.2.2.2.2.2.2.2.2.1, ⟨Nat.zero_le _, fun i hi => absurd hi (Nat.not_lt_zero i)⟩, h.2.2.2.2.2.2.2.2.2.2⟩
end MRw
