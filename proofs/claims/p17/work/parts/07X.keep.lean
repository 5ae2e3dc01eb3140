/-! a body's cells are set again -/
theorem dB_dB {D : tD} {q : Nat} {b c : tBo} : dB (dB D q b) q c = dB D q c := by
  show (va_up (va_up (BD D) q (some b)) q (some c), AD D, lD D, rD D, eD D, ID D, JD D, QD D) = _
  rw [bx_uu]; rfl
theorem nvD_st {D : tD} {o q : Nat} {b b2 : tBo} {c : tL} : dB (nvD (dL D c) o q b) q b2 = dL (nvD D o q b2) c := by
  show (va_up (va_up (BD D) q (some b)) q (some b2), AD D, c, rD D, eD D, ID D, JD D, va_up (QD D) 1 (va_up (QD D 1) o (some q))) = _
  rw [bx_uu]; rfl
/-! a field that is set -/
theorem dif_8 {n o j : Nat} {T : Nat → Nat} {b0 b1 : Nat → tB} (ho : o < n) (hj : j < 8) : dif n T b0 b1 (8 * o + j) = !sameD (T o) j (b1 o) (b0 o) := by
  unfold dif
  rw [show (8 * o + j) / 8 = o by omega, show (8 * o + j) % 8 = j by omega, decide_eq_true ho, Bool.true_and]
theorem dif_8f {n o j : Nat} {T : Nat → Nat} {b0 b1 : Nat → tB} (ho : o < n) (hj : j < 8) (h : sameF (T o) j (b0 o) (b1 o)) : dif n T b0 b1 (8 * o + j) = false := by
  rw [dif_8 ho hj, sameD_t.mpr h.sy]; rfl
theorem dif_8t {n o j : Nat} {T : Nat → Nat} {b0 b1 : Nat → tB} (ho : o < n) (hj : j < 8) (h : ¬ sameF (T o) j (b0 o) (b1 o)) : dif n T b0 b1 (8 * o + j) = true := by
  rw [dif_8 ho hj, sameD_f.mpr (fun q => h q.sy)]; rfl
theorem dif_C {n o j : Nat} {T : Nat → Nat} {b0 : Nat → tB} {v : Int64} (ho : o < n) (hj : j < 8) (h3 : srt (T o) j ≠ 3) : dif n T b0 (va_up b0 o (setC (b0 o) j v)) (8 * o + j) = false ↔ (b0 o).1 j = v := by
  by_cases h : (b0 o).1 j = v
  · refine ⟨fun _ => h, fun _ => dif_8f ho hj ⟨?_, fun q => absurd q h3⟩⟩
    rw [va_up_self]
    show (b0 o).1 j = va_up (b0 o).1 j v j
    rw [va_up_self]; exact h
  · refine ⟨fun q => ?_, fun q => absurd q h⟩
    rw [dif_8t ho hj (fun w => h ?_)] at q
    · cases q
    · have w1 := w.1
      rw [va_up_self] at w1
      have w1 : (b0 o).1 j = va_up (b0 o).1 j v j := w1
      rw [va_up_self] at w1; exact w1
theorem dif_R {n o j : Nat} {T : Nat → Nat} {b0 : Nat → tB} {v : Int64} (ho : o < n) (hj : j < 8) (h3 : srt (T o) j = 3) : dif n T b0 (va_up b0 o (renB (b0 o) j v)) (8 * o + j) = false ↔ ((b0 o).1 j = v ∧ ∀ i, i < 8 → (b0 o).2 (plc j i) = 0) := by
  have e0 : ∀ i, i < 8 → (renB (b0 o) j v).2 (plc j i) = 0 := fun i hi => if_pos ⟨by rw [plc0 j i]; omega, by rw [plc0 j i]; omega⟩
  have e1 : (renB (b0 o) j v).1 j = v := va_up_self _ _ _
  by_cases h : (b0 o).1 j = v ∧ ∀ i, i < 8 → (b0 o).2 (plc j i) = 0
  · refine ⟨fun _ => h, fun _ => dif_8f ho hj ⟨?_, fun _ i hi => ?_⟩⟩
    · rw [va_up_self, e1]; exact h.1
    · rw [va_up_self, e0 i hi]; exact h.2 i hi
  · refine ⟨fun q => ?_, fun q => absurd q h⟩
    rw [dif_8t ho hj (fun w => h ⟨?_, fun i hi => ?_⟩)] at q
    · cases q
    · have w1 := w.1
      rw [va_up_self, e1] at w1; exact w1
    · have w2 := w.2 h3 i hi
      rw [va_up_self, e0 i hi] at w2; exact w2
/-! what a call leaves, leaf by leaf -/
theorem wlC.app {wl : List Nat} {c : Nat} {D : tD} (h : wlC wl D) (hl : wl.length < 192) {x : Int32} (hx : x = nI c) : wlC (wl ++ [c]) (dI D 3 (upd (ID D 3) wl.length x)) := by
  refine ⟨by rw [List.length_append]; show wl.length + 1 ≤ 192; omega, fun i hi => ?_⟩
  rw [List.length_append] at hi
  have hi : i < wl.length + 1 := hi
  rw [ID_s]
  unfold upd
  by_cases e : i = wl.length
  · rw [if_pos e, hx, e, getD_last]
  · rw [if_neg e, getD_app (by omega)]; exact h.2 i (by omega)
theorem tmC.app {tms : Nat → Int32} {c : Nat} {D : tD} (h : tmC tms D) (hc : c < 192) {x : Int32} (hx : x = ID D 4 c + 1) : tmC (upd tms c (tms c + 1)) (dI D 4 (upd (ID D 4) c x)) := fun L hL => by
  rw [ID_s]
  unfold upd
  by_cases e : L = c
  · rw [if_pos e, if_pos e, hx, h c hc]
  · rw [if_neg e, if_neg e]; exact h L hL
def NW (D D2 : tD) : Prop := BD D2 = BD D ∧ AD D2 = AD D ∧ rD D2 = rD D ∧ eD D2 = eD D ∧ JD D2 = JD D ∧ QD D2 = QD D ∧ ∀ j, j ≠ 3 → j ≠ 4 → ID D2 j = ID D j
theorem NW.rf {D : tD} : NW D D := ⟨rfl, rfl, rfl, rfl, rfl, rfl, fun _ _ _ => rfl⟩
theorem NW.L {D D2 : tD} (h : NW D D2) {c : tL} : NW D (dL D2 c) := h
theorem NW.I3 {D D2 : tD} (h : NW D D2) {g : Nat → Int32} : NW D (dI D2 3 g) := ⟨h.1, h.2.1, h.2.2.1, h.2.2.2.1, h.2.2.2.2.1, h.2.2.2.2.2.1, fun j h3 h4 => (ID_n h3).trans (h.2.2.2.2.2.2 j h3 h4)⟩
theorem NW.I4 {D D2 : tD} (h : NW D D2) {g : Nat → Int32} : NW D (dI D2 4 g) := ⟨h.1, h.2.1, h.2.2.1, h.2.2.2.1, h.2.2.2.2.1, h.2.2.2.2.2.1, fun j h3 h4 => (ID_n h4).trans (h.2.2.2.2.2.2 j h3 h4)⟩
theorem RP.nw {n : Nat} {T : Nat → Nat} {k1 i : Nat} {dn th ta nx : Int32} {s : tS} {D D2 : tD} (h : RP n T k1 i dn th ta nx s D) (hN : NW D D2) : RP n T k1 i dn th ta nx s D2 := by
  obtain ⟨w1, w2, w3, w4, w5, w6, w7⟩ := hN
  obtain ⟨h1, h2, h3, h4, h5, h6, h7, h8, h9⟩ := h
  have hcp : ∀ o c, cpO i T D o c → cpO i T D2 o c := fun o c q => q.ext (by rw [w6]) (fun a b hb _ => by rw [w1]; exact hb)
  have hob : ∀ o c, obO T D o c → obO T D2 o c := fun o c q => q.ext (by rw [w6]) (fun a b hb _ => by rw [w1]; exact hb)
  refine ⟨h1, h2, by rw [w3]; exact h3, by rw [w4, w7 _ (by omega) (by omega), w7 _ (by omega) (by omega), w7 _ (by omega) (by omega)]; exact h4, by rw [w7 _ (by omega) (by omega)]; exact h5, by rw [w5]; exact h6, fun o ho => ?_, fun o ho => ?_, fun o ho => ⟨fun hl => hcp _ _ ((h9 o ho).1 hl), fun hl => hob _ _ ((h9 o ho).2 hl)⟩⟩
  · rcases h7 o ho with w | ⟨v1, c, v2⟩
    · exact Or.inl (by rw [w6]; exact w)
    · exact Or.inr ⟨v1, c, hcp _ _ v2⟩
  · obtain ⟨c, q⟩ := h8 o ho
    exact ⟨c, hob _ _ q⟩
/-! object by object -/
def KE (D0 D : tD) : Prop := (∀ a b, BD D0 a = some b → BD D a = some b) ∧ AD D = AD D0 ∧ rD D = rD D0 ∧ eD D = eD D0 ∧ (∀ j, j ≠ 3 → j ≠ 4 → ID D j = ID D0 j) ∧ JD D = JD D0 ∧ ∀ j, j ≠ 1 → QD D j = QD D0 j
theorem KE.rf {D : tD} : KE D D := ⟨fun _ _ h => h, rfl, rfl, rfl, fun _ _ _ => rfl, rfl, fun _ _ => rfl⟩
theorem KE.nw {D0 D D2 : tD} (h : KE D0 D) (g : NW D D2) : KE D0 D2 := ⟨fun a b hb => by rw [g.1]; exact h.1 a b hb, g.2.1.trans h.2.1, g.2.2.1.trans h.2.2.1, g.2.2.2.1.trans h.2.2.2.1, fun j h3 h4 => (g.2.2.2.2.2.2 j h3 h4).trans (h.2.2.2.2.1 j h3 h4), g.2.2.2.2.1.trans h.2.2.2.2.2.1, fun j hj => by rw [g.2.2.2.2.2.1]; exact h.2.2.2.2.2.2 j hj⟩
theorem KE.nv {D0 D : tD} (h : KE D0 D) {o q : Nat} {b : tBo} (hq : BD D q = none) : KE D0 (nvD D o q b) := ⟨fun a c hc => nvD_B hq (h.1 a c hc), h.2.1, h.2.2.1, h.2.2.2.1, h.2.2.2.2.1, h.2.2.2.2.2.1, fun j hj => (nvD_Q hj).trans (h.2.2.2.2.2.2 j hj)⟩
def KX (n : Nat) (T : Nat → Nat) (k1 hg : Nat) (ver : Nat → Nat → tB) (dn th ta nx : Int32) (s : tS) (tms : Nat → Int32) (ca fe sx : Int32) (H : Nat) (cb : Int32) (m o1 : Nat) (D0 D : tD) : Prop :=
  RP n T k1 0 dn th ta nx s D ∧ lD D = (nI H, ca, fe, cb, nI (wls (dif n T (ver hg) (bdS s)) m).length, sx) ∧ wlC (wls (dif n T (ver hg) (bdS s)) m) D ∧ tmC (tmS tms (dif n T (ver hg) (bdS s)) m) D ∧ KE D0 D ∧
  ∀ o, o < n → ∃ a L, QD D 1 o = some a ∧ ((chn (BD D) o (T o) (fun x => ver x o) hg (a :: L) ∧ (o < o1 → eqB (T o) (ver hg o) (bdS s o))) ∨ (o < o1 ∧ H = hg + 1 ∧ chn (BD D) o (T o) (fun x => va_up ver (hg + 1) (bdS s) x o) (hg + 1) (a :: L)))
theorem wls_8 {p : Nat → Bool} {m : Nat} : ∀ k, (∀ c, m ≤ c → c < m + k → p c = false) → wls p (m + k) = wls p m
  | 0, _ => rfl
  | k + 1, h => by
    show wls p (m + k + 1) = wls p m
    rw [wls_0 (h (m + k) (by omega) (by omega))]
    exact wls_8 k (fun c h1 h2 => h c h1 (by omega))
theorem tmS_8 {tms : Nat → Int32} {p : Nat → Bool} {m : Nat} : ∀ k, (∀ c, m ≤ c → c < m + k → p c = false) → tmS tms p (m + k) = tmS tms p m
  | 0, _ => rfl
  | k + 1, h => by
    show tmS tms p (m + k + 1) = tmS tms p m
    rw [tmS_s (h (m + k) (by omega) (by omega))]
    exact tmS_8 k (fun c h1 h2 => h c h1 (by omega))
theorem wls_mono {p : Nat → Bool} {m : Nat} : ∀ k, (wls p m).length ≤ (wls p (m + k)).length ∧ ((wls p (m + k)).length ≤ (wls p m).length → ∀ c, m ≤ c → c < m + k → p c = false)
  | 0 => ⟨Nat.le_refl _, fun _ c h1 h2 => by omega⟩
  | k + 1 => by
    obtain ⟨i1, i2⟩ := wls_mono (p := p) (m := m) k
    cases hp : p (m + k) with
    | true =>
      rw [show m + (k + 1) = m + k + 1 from rfl, wls_1 hp, List.length_append]
      refine ⟨by show _ ≤ _ + 1; omega, fun h => ?_⟩
      have h : (wls p (m + k)).length + 1 ≤ (wls p m).length := h
      omega
    | false =>
      rw [show m + (k + 1) = m + k + 1 from rfl, wls_0 hp]
      refine ⟨i1, fun h c h1 h2 => ?_⟩
      by_cases e : c = m + k
      · rw [e]; exact hp
      · exact i2 h c h1 (by omega)
section KXs
variable {n : Nat} {T : Nat → Nat} {k1 hg : Nat} {ver : Nat → Nat → tB} {dn th ta nx : Int32} {s : tS} {tms : Nat → Int32} {ca fe sx : Int32} {H : Nat} {cb : Int32} {m o1 : Nat} {D0 D : tD}
/-- the object o1 has not changed -/
theorem KX.same (h : KX n T k1 hg ver dn th ta nx s tms ca fe sx H cb (8 * o1 + 8) o1 D0 D) (ho : o1 < n) (he : ∀ c, 8 * o1 ≤ c → c < 8 * o1 + 8 → dif n T (ver hg) (bdS s) c = false) : KX n T k1 hg ver dn th ta nx s tms ca fe sx H cb (8 * (o1 + 1)) (o1 + 1) D0 D := by
  obtain ⟨h1, h2, h3, h4, h5, h6⟩ := h
  refine ⟨h1, h2, h3, h4, h5, fun o ho2 => ?_⟩
  obtain ⟨a, L, q1, q2⟩ := h6 o ho2
  refine ⟨a, L, q1, ?_⟩
  rcases q2 with ⟨q2, q3⟩ | ⟨q2, q3, q4⟩
  · refine Or.inl ⟨q2, fun q => ?_⟩
    by_cases e : o = o1
    · subst e
      intro j hj
      have w := he (8 * o + j) (by omega) (by omega)
      rw [dif_8 ho hj] at w
      have w2 : sameD (T o) j (bdS s o) (ver hg o) = true := by
        cases hs : sameD (T o) j (bdS s o) (ver hg o) with
        | true => rfl
        | false => rw [hs] at w; cases w
      exact (sameD_t.mp w2).sy
    · exact q3 (by omega)
  · exact Or.inr ⟨by omega, q3, q4⟩
/-- the object o1 has changed: it has a new version -/
theorem KX.new (h : KX n T k1 hg ver dn th ta nx s tms ca fe sx (hg + 1) cb (8 * o1 + 8) o1 D0 D) (ho : o1 < n) (hl : ldS s o1 = true) {q : Nat} {b : tBo} (hq : BD D q = none) (hgb : gB b = (0, o1)) (hy : yB b = T o1) (hs : siB b = nI (hg + 1)) (hbf : bfB b = QD D 1 o1) (he : eqB (T o1) (cB b) (bdS s o1)) : KX n T k1 hg ver dn th ta nx s tms ca fe sx (hg + 1) cb (8 * (o1 + 1)) (o1 + 1) D0 (nvD D o1 q b) := by
  obtain ⟨h1, h2, h3, h4, h5, h6⟩ := h
  refine ⟨h1.nv hq hl hgb hy, h2, h3, h4, h5.nv hq, fun o ho2 => ?_⟩
  obtain ⟨a, L, q1, q2⟩ := h6 o ho2
  rw [nvD_1]
  by_cases e : o = o1
  · subst e
    rw [va_up_self]
    rcases q2 with ⟨q2, -⟩ | ⟨q2, -⟩
    · refine ⟨q, a :: L, rfl, Or.inr ⟨by omega, rfl, chn.new nvD_q hgb hy hs ?_ (hbf.trans q1) ?_⟩⟩
      · show eqB (T o) (cB b) (va_up ver (hg + 1) (bdS s) (hg + 1) o)
        rw [va_up_self]; exact he
      · exact chn.ext (fun x y hx _ => nvD_B hq hx) _ _ (fun x hx => by show eqB (T o) (ver x o) (va_up ver (hg + 1) (bdS s) x o); rw [va_up_ne _ _ (by omega)]; exact eqB.rf) q2
    · omega
  · rw [va_up_ne _ _ e]
    refine ⟨a, L, q1, ?_⟩
    have hx : ∀ v H2, chn (BD D) o (T o) v H2 (a :: L) → chn (BD (nvD D o1 q b)) o (T o) v H2 (a :: L) := fun v H2 c => chn.ext (fun x y hx _ => nvD_B hq hx) _ _ (fun _ _ => eqB.rf) c
    rcases q2 with ⟨q2, q3⟩ | ⟨q2, q3, q4⟩
    · exact Or.inl ⟨hx _ _ q2, fun w => q3 (by omega)⟩
    · exact Or.inr ⟨by omega, q3, hx _ _ q4⟩
/-- the height is raised -/
theorem KX.rise (h : KX n T k1 hg ver dn th ta nx s tms ca fe sx hg cb m o1 D0 D) : KX n T k1 hg ver dn th ta nx s tms ca fe sx (hg + 1) 0 m o1 D0 (dL D (nI (hg + 1), ca, fe, 0, nI (wls (dif n T (ver hg) (bdS s)) m).length, sx)) := by
  obtain ⟨h1, h2, h3, h4, h5, h6⟩ := h
  refine ⟨h1, rfl, h3, h4, h5, fun o ho2 => ?_⟩
  obtain ⟨a, L, q1, q2⟩ := h6 o ho2
  rcases q2 with q2 | ⟨q2, q3, q4⟩
  · exact ⟨a, L, q1, Or.inl q2⟩
  · omega
theorem KX.nw {D2 : tD} {m2 : Nat} (h : KX n T k1 hg ver dn th ta nx s tms ca fe sx H cb m o1 D0 D) (hN : NW D D2) (hl : lD D2 = (nI H, ca, fe, cb, nI (wls (dif n T (ver hg) (bdS s)) m2).length, sx)) (hw : wlC (wls (dif n T (ver hg) (bdS s)) m2) D2) (ht : tmC (tmS tms (dif n T (ver hg) (bdS s)) m2) D2) : KX n T k1 hg ver dn th ta nx s tms ca fe sx H cb m2 o1 D0 D2 := by
  obtain ⟨h1, h2, h3, h4, h5, h6⟩ := h
  exact ⟨h1.nw hN, hl, hw, ht, h5.nw hN, by rw [hN.1, hN.2.2.2.2.2.1]; exact h6⟩
/-- the object o1 was not loaded: it has not changed -/
theorem KX.un (h : KX n T k1 hg ver dn th ta nx s tms ca fe sx H cb (8 * o1) o1 D0 D) (ho : o1 < n) (hl : ldS s o1 = false) : ∀ c, 8 * o1 ≤ c → c < 8 * o1 + 8 → dif n T (ver hg) (bdS s) c = false := by
  obtain ⟨h1, -, -, -, -, h6⟩ := h
  obtain ⟨a, L, q1, q2⟩ := h6 o1 ho
  obtain ⟨a2, b2, p1, p2, p3, p4, p5⟩ := (h1.2.2.2.2.2.2.2.2 o1 ho).2 hl
  rcases q2 with ⟨q2, -⟩ | ⟨q2, -⟩
  · obtain ⟨b, b1, b2', b3, b4⟩ := chn.hd q2
    rw [p1] at q1; cases q1
    rw [p2] at b1; cases b1
    intro c hc1 hc2
    have e : c = 8 * o1 + (c - 8 * o1) := by omega
    rw [e]
    exact dif_8f ho (by omega) ((b4 _ (by omega)).sy.tr (p5 _ (by omega)))
  · omega
theorem KX.mv (h : KX n T k1 hg ver dn th ta nx s tms ca fe sx H cb (8 * o1) o1 D0 D) (he : ∀ c, 8 * o1 ≤ c → c < 8 * o1 + 8 → dif n T (ver hg) (bdS s) c = false) : KX n T k1 hg ver dn th ta nx s tms ca fe sx H cb (8 * o1 + 8) o1 D0 D := by
  obtain ⟨h1, h2, h3, h4, h5, h6⟩ := h
  have e1 := wls_8 8 he
  have e2 := tmS_8 (tms := tms) 8 he
  exact ⟨h1, by rw [e1]; exact h2, by rw [e1]; exact h3, by rw [e2]; exact h4, h5, h6⟩
/-- the object's body, as it was -/
theorem KX.hd (h : KX n T k1 hg ver dn th ta nx s tms ca fe sx H cb m o1 D0 D) (ho : o1 < n) : ∃ a b, QD D 1 o1 = some a ∧ BD D a = some b ∧ yB b = T o1 ∧ eqB (T o1) (cB b) (ver hg o1) := by
  obtain ⟨a, L, q1, q2⟩ := h.2.2.2.2.2 o1 ho
  rcases q2 with ⟨q2, -⟩ | ⟨q2, -⟩
  · obtain ⟨b, b1, b2, b3, b4⟩ := chn.hd q2
    exact ⟨a, b, q1, b1, b3, b4⟩
  · omega
end KXs
theorem dif_big {n L : Nat} {T : Nat → Nat} {b0 b1 : Nat → tB} (h : 8 * n ≤ L) : dif n T b0 b1 L = false := by
  unfold dif
  rw [decide_eq_false (by omega), Bool.false_and]
section KXe
variable {n : Nat} {T z : Nat → Nat} {A : Nat → tA} {hg : Nat} {ver : Nat → Nat → tB} {cq : Nat → Bool} {fe : Int32} {tms : Nat → Int32} {ca : Int32} {wh : Int32} {ac th : Nat} {sx : Int32} {D0 D : tD} {k1 : Nat} {dn th2 ta nx : Int32} {s : tS} {cb : Int32}
theorem KE.gc (h : GC n T z A hg ver cq fe tms ca [] wh ac th sx (ldS s) (trS s) (gfS s) D0) (hE : KE D0 D) : acC z A D ∧ ltC ac th wh (ldS s) (trS s) (gfS s) D ∧ wfA n T D := by
  obtain ⟨e1, e2, e3, e4, e5, e6, e7⟩ := hE
  refine ⟨fun b hb p hp => ?_, ?_, fun i hi => ⟨fun o ho => ?_, ?_⟩⟩
  · obtain ⟨q1, a, q2, q3⟩ := h.acs b hb p hp
    exact ⟨q1, a, by rw [e7 _ (by omega)]; exact q2, by rw [e2]; exact q3⟩
  · unfold ltC
    rw [e3, e4, e5 7 (by omega) (by omega), e5 8 (by omega) (by omega), e5 9 (by omega) (by omega)]
    exact h.lt
  · rcases (h.wf i hi).1 o ho with w | ⟨w1, c, w2⟩
    · exact Or.inl (by rw [e7 _ (by omega)]; exact w)
    · exact Or.inr ⟨w1, c, w2.ext (by rw [e7 _ (by omega)]) (fun x y hx _ => e1 x y hx)⟩
  · rw [e4, e5 _ (by omega) (by omega), e5 _ (by omega) (by omega), e5 _ (by omega) (by omega)]
    exact (h.wf i hi).2
theorem KX.end0 (hG : GC n T z A hg ver cq fe tms ca [] wh ac th sx (ldS s) (trS s) (gfS s) D0) (h : KX n T k1 hg ver dn th2 ta nx s tms ca fe sx hg cb (8 * n) n D0 D) (hb : ∀ o, o < 24 → btO cb o = cq o) (hw : wls (dif n T (ver hg) (bdS s)) (8 * n) = []) : wls (dif n T (ver hg) (bdS s)) 192 = [] ∧ GC n T z A hg ver cq fe tms ca [] wh ac th sx (ldS s) (trS s) (gfS s) D := by
  obtain ⟨h1, h2, h3, h4, h5, h6⟩ := h
  obtain ⟨g1, g2, g3⟩ := KE.gc hG h5
  have n24 := hG.bs.1
  have e8 : ∀ c, 8 * n ≤ c → c < 8 * n + (192 - 8 * n) → dif n T (ver hg) (bdS s) c = false := fun c hc _ => dif_big hc
  have w1 := wls_8 _ e8
  rw [show 8 * n + (192 - 8 * n) = 192 by omega] at w1
  rw [hw] at h2 h3
  refine ⟨w1.trans hw, hG.bs, hG.h40, hG.z32, ⟨cb, h2, hb⟩, h3, ?_, g1, fun o ho => ?_, g2, g3⟩
  · rw [tmS_nil hw] at h4; exact h4
  · obtain ⟨a, L, q1, q2⟩ := h6 o ho
    rcases q2 with ⟨q2, -⟩ | ⟨-, q3, -⟩
    · exact ⟨(hG.obs o ho).1, a, L, q1, q2⟩
    · omega
theorem KX.end1 (hG : GC n T z A hg ver cq fe tms ca [] wh ac th sx (ldS s) (trS s) (gfS s) D0) (h39 : hg ≤ 39) (h : KX n T k1 hg ver dn th2 ta nx s tms ca fe sx (hg + 1) 0 (8 * n) n D0 D) (hw : wls (dif n T (ver hg) (bdS s)) (8 * n) ≠ []) : wls (dif n T (ver hg) (bdS s)) 192 ≠ [] ∧ GC n T z A (hg + 1) (va_up ver (hg + 1) (bdS s)) (fun _ => false) fe (tmS tms (dif n T (ver hg) (bdS s)) 192) ca (wls (dif n T (ver hg) (bdS s)) 192) wh ac th sx (ldS s) (trS s) (gfS s) D := by
  obtain ⟨h1, h2, h3, h4, h5, h6⟩ := h
  obtain ⟨g1, g2, g3⟩ := KE.gc hG h5
  have n24 := hG.bs.1
  have e8 : ∀ c, 8 * n ≤ c → c < 8 * n + (192 - 8 * n) → dif n T (ver hg) (bdS s) c = false := fun c hc _ => dif_big hc
  have w1 := wls_8 _ e8
  have w2 := tmS_8 (tms := tms) _ e8
  rw [show 8 * n + (192 - 8 * n) = 192 by omega] at w1 w2
  rw [← w1] at h2 h3 hw
  rw [← w2] at h4
  refine ⟨hw, hG.bs, by omega, hG.z32, ⟨0, h2, fun o _ => bt_zero⟩, h3, h4, g1, fun o ho => ⟨fun x hx => ?_, ?_⟩, g2, g3⟩
  · by_cases e : x = hg + 1
    · rw [e, va_up_self]; exact h1.2.1.1 o ho
    · rw [va_up_ne _ _ e]; exact (hG.obs o ho).1 x (by omega)
  · obtain ⟨a, L, q1, q2⟩ := h6 o ho
    rcases q2 with ⟨q2, q3⟩ | ⟨-, -, q4⟩
    · refine ⟨a, L, q1, chn.up ?_ (chn.ext (fun x y hx _ => hx) _ _ (fun x hx => by show eqB (T o) (ver x o) (va_up ver (hg + 1) (bdS s) x o); rw [va_up_ne _ _ (by omega)]; exact eqB.rf) q2)⟩
      show eqB (T o) (va_up ver (hg + 1) (bdS s) hg o) (va_up ver (hg + 1) (bdS s) (hg + 1) o)
      rw [va_up_self, va_up_ne _ _ (show hg ≠ hg + 1 by omega)]
      exact q3 ho
    · exact ⟨a, L, q1, q4⟩
end KXe
