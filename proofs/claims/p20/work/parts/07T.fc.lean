/-! what the class's memory means: acts, objects with their versions, the latest Run, what the Runs keep, the numbers, what was written -/
def acC (z : Nat → Nat) (A : Nat → tA) (D : tD) : Prop := ∀ b, b < 6 → ∀ p, p < z b → okA (A (32 * b + p)) ∧ ∃ a, QD D (29 + 2 * b + 1) p = some a ∧ AD D a = some (A (32 * b + p))
def obC (n : Nat) (T : Nat → Nat) (hg : Nat) (ver : Nat → Nat → tB) (D : tD) : Prop := ∀ o, o < n → (∀ x, x ≤ hg → okBd n (T o) (ver x o)) ∧ ∃ a L, QD D 1 o = some a ∧ chn (BD D) o (T o) (fun x => ver x o) hg (a :: L)
def ltC (ac th : Nat) (wh : Int32) (ld : Nat → Bool) (tr : List Nat) (gf : Int64) (D : tD) : Prop := (∃ lb st nx, rD D 0 = (lb, nI ac, gf, nI th, wh, st, nx) ∧ ∀ o, o < 32 → btO lb o = ld o) ∧ TRC tr (eD D 0) (ID D 7) (ID D 8) (ID D 9) ∧ ∀ o, 24 ≤ o → ld o = false
def wfA (n : Nat) (T : Nat → Nat) (D : tD) : Prop := ∀ i, i < 3 → wfC i n T D ∧ ∃ l, TRC l (eD D i) (ID D (5 + 8 * i + 2)) (ID D (5 + 8 * i + 3)) (ID D (5 + 8 * i + 4))
def wlC (wl : List Nat) (D : tD) : Prop := wl.length ≤ 192 ∧ ∀ i, i < wl.length → ID D 3 i = nI (wl.getD i 0)
def tmC (tms : Nat → Int32) (D : tD) : Prop := ∀ L, L < 192 → ID D 4 L = tms L
def lnC (hg : Nat) (cq : Nat → Bool) (fe ca : Int32) (wn : Nat) (sx : Int32) (D : tD) : Prop := ∃ cb, lD D = (nI hg, ca, fe, cb, nI wn, sx) ∧ ∀ o, o < 24 → btO cb o = cq o
def GC (n : Nat) (T z : Nat → Nat) (A : Nat → tA) (hg : Nat) (ver : Nat → Nat → tB) (cq : Nat → Bool) (fe : Int32) (tms : Nat → Int32) (ca : Int32) (wl : List Nat) (wh : Int32) (ac th : Nat) (sx : Int32) (ld : Nat → Bool) (tr : List Nat) (gf : Int64) (D : tD) : Prop :=
  bsC n T ∧ hg ≤ 40 ∧ (∀ b, z b ≤ 32) ∧ lnC hg cq fe ca wl.length sx D ∧ wlC wl D ∧ tmC tms D ∧ acC z A D ∧ obC n T hg ver D ∧ ltC ac th wh ld tr gf D ∧ wfA n T D
section GCs
variable {n : Nat} {T z : Nat → Nat} {A : Nat → tA} {hg : Nat} {ver : Nat → Nat → tB} {cq : Nat → Bool} {fe : Int32} {tms : Nat → Int32} {ca : Int32} {wl : List Nat} {wh : Int32} {ac th : Nat} {sx : Int32} {ld : Nat → Bool} {tr : List Nat} {gf : Int64} {D : tD}
theorem GC.bs (h : GC n T z A hg ver cq fe tms ca wl wh ac th sx ld tr gf D) : bsC n T := h.1
theorem GC.h40 (h : GC n T z A hg ver cq fe tms ca wl wh ac th sx ld tr gf D) : hg ≤ 40 := h.2.1
theorem GC.z32 (h : GC n T z A hg ver cq fe tms ca wl wh ac th sx ld tr gf D) : ∀ b, z b ≤ 32 := h.2.2.1
theorem GC.ln (h : GC n T z A hg ver cq fe tms ca wl wh ac th sx ld tr gf D) : lnC hg cq fe ca wl.length sx D := h.2.2.2.1
theorem GC.wr (h : GC n T z A hg ver cq fe tms ca wl wh ac th sx ld tr gf D) : wlC wl D := h.2.2.2.2.1
theorem GC.tm (h : GC n T z A hg ver cq fe tms ca wl wh ac th sx ld tr gf D) : tmC tms D := h.2.2.2.2.2.1
theorem GC.acs (h : GC n T z A hg ver cq fe tms ca wl wh ac th sx ld tr gf D) : acC z A D := h.2.2.2.2.2.2.1
theorem GC.obs (h : GC n T z A hg ver cq fe tms ca wl wh ac th sx ld tr gf D) : obC n T hg ver D := h.2.2.2.2.2.2.2.1
theorem GC.lt (h : GC n T z A hg ver cq fe tms ca wl wh ac th sx ld tr gf D) : ltC ac th wh ld tr gf D := h.2.2.2.2.2.2.2.2.1
theorem GC.wf (h : GC n T z A hg ver cq fe tms ca wl wh ac th sx ld tr gf D) : wfA n T D := h.2.2.2.2.2.2.2.2.2
/-- other numbers of the object -/
theorem GC.L (h : GC n T z A hg ver cq fe tms ca wl wh ac th sx ld tr gf D) {cq2 : Nat → Bool} {fe2 ca2 cb2 sx2 : Int32} (hb : ∀ o, o < 24 → btO cb2 o = cq2 o) : GC n T z A hg ver cq2 fe2 tms ca2 wl wh ac th sx2 ld tr gf (dL D (nI hg, ca2, fe2, cb2, nI wl.length, sx2)) := ⟨h.bs, h.h40, h.z32, ⟨cb2, rfl, hb⟩, h.wr, h.tm, h.acs, h.obs, h.lt, h.wf⟩
/-- nothing is written yet -/
theorem GC.W0 (h : GC n T z A hg ver cq fe tms ca wl wh ac th sx ld tr gf D) {cb2 : Int32} (hb : ∀ o, o < 24 → btO cb2 o = cq o) : GC n T z A hg ver cq fe tms ca [] wh ac th sx ld tr gf (dL D (nI hg, ca, fe, cb2, nI 0, sx)) := ⟨h.bs, h.h40, h.z32, ⟨cb2, rfl, hb⟩, ⟨Nat.zero_le _, fun i hi => absurd hi (Nat.not_lt_zero i)⟩, h.tm, h.acs, h.obs, h.lt, h.wf⟩
theorem obC.ob {o : Nat} (h : obC n T hg ver D) (ho : o < n) : obO T D o (ver hg o) := by
  obtain ⟨-, a, L, q1, q2⟩ := h o ho
  obtain ⟨b, b1, b2, b3, b4⟩ := chn.hd q2
  exact ⟨a, b, q1, b1, b2, b3, b4⟩
theorem obC.hd {o : Nat} (h : obC n T hg ver D) (ho : o < n) : ∃ a b L, QD D 1 o = some a ∧ BD D a = some b ∧ gB b = (0, o) ∧ yB b = T o ∧ eqB (T o) (cB b) (ver hg o) ∧ chn (BD D) o (T o) (fun x => ver x o) hg (a :: L) := by
  obtain ⟨-, a, L, q1, q2⟩ := h o ho
  obtain ⟨b, b1, b2, b3, b4⟩ := chn.hd q2
  exact ⟨a, b, L, q1, b1, b2, b3, b4, q2⟩
/-- a Run was started and has worked -/
theorem GC.run (h : GC n T z A hg ver cq fe tms ca wl wh ac th sx ld tr gf D) {i k1 : Nat} (hi : i < 3) {D2 : tD} (hK : KP i D D2) {dn th2 ta nx : Int32} {s : tS} (hR : RP n T k1 i dn th2 ta nx s D2) : acC z A D2 ∧ obC n T hg ver D2 ∧ wfA n T D2 ∧ wlC wl D2 ∧ tmC tms D2 ∧ lnC hg cq fe ca wl.length sx D2 := by
  refine ⟨fun b hb p hp => ?_, fun o ho => ?_, fun j hj => ?_, ⟨h.wr.1, fun j hj => ?_⟩, fun L hL => ?_, ?_⟩
  · obtain ⟨q1, a, q2, q3⟩ := h.acs b hb p hp
    exact ⟨q1, a, by rw [(hK.2.2.2.2.1 (29 + 2 * b + 1) (by omega)).2.2]; exact q2, by rw [hK.2.1]; exact q3⟩
  · obtain ⟨q1, a, L, q2, q3⟩ := h.obs o ho
    exact ⟨q1, a, L, by rw [(hK.2.2.2.2.1 1 (by omega)).2.2]; exact q2, chn.ext (fun a b hb hg => hK.1 a b hb (by rw [hg]; show 0 ≠ i + 1; omega)) _ _ (fun x _ => eqB.rf) q3⟩
  · by_cases e : j = i
    · subst e; exact ⟨hR.2.2.2.2.2.2.1, _, hR.2.2.2.1⟩
    · obtain ⟨q1, l, q2⟩ := h.wf j hj
      refine ⟨q1.kp hK e, l, ?_⟩
      rw [(hK.2.2.2.1 j e).2, (hK.2.2.2.2.1 (5 + 8 * j + 2) (by omega)).1, (hK.2.2.2.2.1 (5 + 8 * j + 3) (by omega)).1, (hK.2.2.2.2.1 (5 + 8 * j + 4) (by omega)).1]
      exact q2
  · rw [(hK.2.2.2.2.1 3 (by omega)).1]; exact h.wr.2 j hj
  · rw [(hK.2.2.2.2.1 4 (by omega)).1]; exact h.tm L hL
  · obtain ⟨cb, q1, q2⟩ := h.ln
    exact ⟨cb, by rw [hK.2.2.1]; exact q1, q2⟩
theorem GC.run0 (h : GC n T z A hg ver cq fe tms ca wl wh ac th sx ld tr gf D) {k1 : Nat} {D2 : tD} (hK : KP 0 D D2) {dn th2 ta nx : Int32} {s : tS} (hR : RP n T k1 0 dn th2 ta nx s D2) {ac2 th3 : Nat} (e1 : dn = nI ac2) (e2 : th2 = nI th3) : GC n T z A hg ver cq fe tms ca wl ta ac2 th3 sx (ldS s) (trS s) (gfS s) D2 := by
  obtain ⟨q1, q2, q3, q4, q5, q6⟩ := h.run (by omega) hK hR
  obtain ⟨lb, r1, r2⟩ := hR.2.2.1
  exact ⟨h.bs, h.h40, h.z32, q6, q4, q5, q1, q2, ⟨⟨lb, _, nx, by rw [r1, e1, e2], r2⟩, hR.2.2.2.1, fun o ho => by
    cases hl : ldS s o with
    | false => rfl
    | true => have := hR.2.1.2.2.2 o hl; have := h.bs.1; omega⟩, q3⟩
theorem GC.runi (h : GC n T z A hg ver cq fe tms ca wl wh ac th sx ld tr gf D) {k1 i : Nat} (hi : i < 3) (h0 : i ≠ 0) {D2 : tD} (hK : KP i D D2) {dn th2 ta nx : Int32} {s : tS} (hR : RP n T k1 i dn th2 ta nx s D2) : GC n T z A hg ver cq fe tms ca wl wh ac th sx ld tr gf D2 := by
  obtain ⟨q1, q2, q3, q4, q5, q6⟩ := h.run hi hK hR
  refine ⟨h.bs, h.h40, h.z32, q6, q4, q5, q1, q2, ?_, q3⟩
  have e0 := hK.2.2.2.1 0 (Ne.symm h0)
  unfold ltC
  rw [e0.1, e0.2, (hK.2.2.2.2.1 7 (by omega)).1, (hK.2.2.2.2.1 8 (by omega)).1, (hK.2.2.2.2.1 9 (by omega)).1]
  exact h.lt
end GCs
/-- a Run is not touched by another one -/
theorem RP.kp {n : Nat} {T : Nat → Nat} {k1 i j : Nat} {dn th ta nx : Int32} {s : tS} {D D2 : tD} (h : RP n T k1 i dn th ta nx s D) (hK : KP j D D2) (hne : i ≠ j) : RP n T k1 i dn th ta nx s D2 := by
  obtain ⟨h1, h2, ⟨lb, h3, h3b⟩, h4, h5, h6, h7, h8, h9⟩ := h
  have e := hK.2.2.2.1 i hne
  have r := fun c (hc : c < 8) => hK.2.2.2.2.1 (5 + 8 * i + c) (by omega)
  have hcp : ∀ o c, cpO i T D o c → cpO i T D2 o c := fun o c q => q.ext (by rw [(r 5 (by omega)).2.2]) (fun a b hb hg => hK.1 a b hb (by rw [hg]; show i + 1 ≠ j + 1; omega))
  refine ⟨h1, h2, ⟨lb, by rw [e.1]; exact h3, h3b⟩, ?_, fun x hx => ?_, fun x hx => ?_, h7.kp hK hne, fun o ho => ?_, fun o ho => ⟨fun hl => hcp _ _ ((h9 o ho).1 hl), fun hl => ((h9 o ho).2 hl).kp hK⟩⟩
  · rw [e.2, (r 2 (by omega)).1, (r 3 (by omega)).1, (r 4 (by omega)).1]; exact h4
  · rw [(r 6 (by omega)).1]; exact h5 x hx
  · rw [(r 7 (by omega)).2.1]; exact h6 x hx
  · obtain ⟨c, q⟩ := h8 o ho
    exact ⟨c, q.kp hK⟩
/-! a new version of an object -/
abbrev nvD (D : tD) (o q : Nat) (b : tBo) : tD := dQ (dB D q b) 1 (va_up (QD D 1) o (some q))
section NV
variable {n : Nat} {T : Nat → Nat} {D : tD} {o q : Nat} {b : tBo}
theorem nvD_B (hq : BD D q = none) {x : Nat} {y : tBo} (hx : BD D x = some y) : BD (nvD D o q b) x = some y := (va_up_ne _ _ (fun e => by rw [e, hq] at hx; cases hx)).trans hx
theorem nvD_q : BD (nvD D o q b) q = some b := va_up_self _ _ _
theorem nvD_1 : QD (nvD D o q b) 1 = va_up (QD D 1) o (some q) := QD_s (D := dB D q b)
theorem nvD_Q {j : Nat} (hj : j ≠ 1) : QD (nvD D o q b) j = QD D j := QD_n (D := dB D q b) hj
theorem wfC.nv {i : Nat} (h : wfC i n T D) (hq : BD D q = none) : wfC i n T (nvD D o q b) := fun p hp => by
  rcases h p hp with w | ⟨w1, c, w2⟩
  · exact Or.inl (by rw [nvD_Q (by omega)]; exact w)
  · exact Or.inr ⟨w1, c, w2.ext (by rw [nvD_Q (by omega)]) (fun x y hx _ => nvD_B hq hx)⟩
/-- the Run, where an object that it has loaded gets a new version -/
theorem RP.nv {k1 i : Nat} {dn th ta nx : Int32} {s : tS} (h : RP n T k1 i dn th ta nx s D) (hq : BD D q = none) (hl : ldS s o = true) (hg : gB b = (0, o)) (hy : yB b = T o) : RP n T k1 i dn th ta nx s (nvD D o q b) := by
  obtain ⟨h1, h2, h3, h4, h5, h6, h7, h8, h9⟩ := h
  have hob : ∀ p c, p ≠ o → obO T D p c → obO T (nvD D o q b) p c := fun p c hp w => w.ext (by rw [nvD_1, va_up_ne _ _ hp]) (fun x y hx _ => nvD_B hq hx)
  refine ⟨h1, h2, h3, h4, h5, h6, h7.nv hq, fun p hp => ?_, fun p hp => ⟨fun hl2 => ((h9 p hp).1 hl2).ext (by rw [nvD_Q (by omega)]) (fun x y hx _ => nvD_B hq hx), fun hl2 => hob p _ (fun e => by rw [e, hl] at hl2; cases hl2) ((h9 p hp).2 hl2)⟩⟩
  by_cases e : p = o
  · subst e; exact ⟨_, q, b, by rw [nvD_1, va_up_self], nvD_q, hg, hy, eqB.rf⟩
  · obtain ⟨c, w⟩ := h8 p hp
    exact ⟨c, hob p c e w⟩
end NV
/-! one object gets a new version at a new height -/
theorem GC.nv1 {n : Nat} {T z : Nat → Nat} {A : Nat → tA} {hg : Nat} {ver : Nat → Nat → tB} {cq : Nat → Bool} {fe : Int32} {tms : Nat → Int32} {ca : Int32} {wl : List Nat} {wh : Int32} {ac th : Nat} {sx : Int32} {ld : Nat → Bool} {tr : List Nat} {gf : Int64} {D : tD} (h : GC n T z A hg ver cq fe tms ca wl wh ac th sx ld tr gf D) (h39 : hg ≤ 39) {o q a : Nat} {L : List Nat} {b : tBo} {c : tB} (ho : o < n) (ha : QD D 1 o = some a) (hc : chn (BD D) o (T o) (fun x => ver x o) hg (a :: L)) (hq : BD D q = none) (hgb : gB b = (0, o)) (hy : yB b = T o) (hs : siB b = nI (hg + 1)) (hbf : bfB b = some a) (he : eqB (T o) (cB b) c) (hok : okBd n (T o) c) {D2 : tD} (eD2 : D2 = dL (nvD D o q b) (nI (hg + 1), ca, fe, 0, nI wl.length, sx)) : GC n T z A (hg + 1) (va_up ver (hg + 1) (va_up (ver hg) o c)) (fun _ => false) fe tms ca wl wh ac th sx ld tr gf D2 := by
  subst eD2
  have hv : ∀ x p, x ≤ hg → va_up ver (hg + 1) (va_up (ver hg) o c) x p = ver x p := fun x p hx => by rw [va_up_ne _ _ (by omega)]
  have hv1 : ∀ p, va_up ver (hg + 1) (va_up (ver hg) o c) (hg + 1) p = va_up (ver hg) o c p := fun p => by rw [va_up_self]
  refine ⟨h.bs, by omega, h.z32, ⟨0, rfl, fun o _ => bt_zero⟩, h.wr, h.tm, fun b6 hb p hp => ?_, fun p hp => ?_, h.lt, fun i hi => ⟨(h.wf i hi).1.nv hq, (h.wf i hi).2⟩⟩
  · obtain ⟨q1, a2, q2, q3⟩ := h.acs b6 hb p hp
    exact ⟨q1, a2, by show QD (nvD D o q b) _ p = _; rw [nvD_Q (by omega)]; exact q2, q3⟩
  · show (∀ x, x ≤ hg + 1 → okBd n (T p) (va_up ver (hg + 1) (va_up (ver hg) o c) x p)) ∧ ∃ a L, QD (nvD D o q b) 1 p = some a ∧ chn (BD (nvD D o q b)) p (T p) (fun x => va_up ver (hg + 1) (va_up (ver hg) o c) x p) (hg + 1) (a :: L)
    rw [nvD_1]
    have hokA : okBd n (T p) (va_up (ver hg) o c p) → ∀ x, x ≤ hg + 1 → okBd n (T p) (va_up ver (hg + 1) (va_up (ver hg) o c) x p) := fun h1 x hx => by
      by_cases e : x = hg + 1
      · rw [e, hv1]; exact h1
      · rw [hv x p (by omega)]; exact (h.obs p hp).1 x (by omega)
    by_cases e : p = o
    · subst e
      rw [va_up_self]
      refine ⟨hokA (by rw [va_up_self]; exact hok), q, a :: L, rfl, chn.new nvD_q hgb hy hs ?_ hbf ?_⟩
      · show eqB (T p) (cB b) (va_up ver (hg + 1) (va_up (ver hg) p c) (hg + 1) p)
        rw [hv1, va_up_self]; exact he
      · exact chn.ext (fun x y hx _ => nvD_B hq hx) _ _ (fun x hx => by show eqB (T p) (ver x p) (va_up ver (hg + 1) (va_up (ver hg) p c) x p); rw [hv x p hx]; exact eqB.rf) hc
    · rw [va_up_ne _ _ e]
      obtain ⟨q1, a2, L2, q2, q3⟩ := h.obs p hp
      refine ⟨hokA (by rw [va_up_ne _ _ e]; exact q1 hg (Nat.le_refl _)), a2, L2, q2, chn.up ?_ (chn.ext (fun x y hx _ => nvD_B hq hx) _ _ (fun x hx => by show eqB (T p) (ver x p) (va_up ver (hg + 1) (va_up (ver hg) o c) x p); rw [hv x p hx]; exact eqB.rf) q3)⟩
      show eqB (T p) (va_up ver (hg + 1) (va_up (ver hg) o c) hg p) (va_up ver (hg + 1) (va_up (ver hg) o c) (hg + 1) p)
      rw [hv hg p (Nat.le_refl _), hv1, va_up_ne _ _ e]; exact eqB.rf
/-! acts -/
section GCa
variable {n : Nat} {T z : Nat → Nat} {A : Nat → tA} {hg : Nat} {ver : Nat → Nat → tB} {cq : Nat → Bool} {fe : Int32} {tms : Nat → Int32} {ca : Int32} {wl : List Nat} {wh : Int32} {ac th : Nat} {sx : Int32} {ld : Nat → Bool} {tr : List Nat} {gf : Int64} {D : tD}
theorem GC.clr (h : GC n T z A hg ver cq fe tms ca wl wh ac th sx ld tr gf D) {b : Nat} : GC n T (va_up z b 0) A hg ver cq fe tms ca wl wh ac th sx ld tr gf D := by
  refine ⟨h.bs, h.h40, fun q => ?_, h.ln, h.wr, h.tm, fun q hq p hp => ?_, h.obs, h.lt, h.wf⟩
  · by_cases e : q = b
    · subst e; rw [va_up_self]; omega
    · rw [va_up_ne _ _ e]; exact h.z32 q
  · by_cases e : q = b
    · subst e; rw [va_up_self] at hp; omega
    · rw [va_up_ne _ _ e] at hp; exact h.acs q hq p hp
theorem GC.newA (h : GC n T z A hg ver cq fe tms ca wl wh ac th sx ld tr gf D) {q : Nat} {t : tA} (hn : AD D q = none) : GC n T z A hg ver cq fe tms ca wl wh ac th sx ld tr gf (dA D q t) := by
  refine ⟨h.bs, h.h40, h.z32, h.ln, h.wr, h.tm, fun b hb p hp => ?_, h.obs, h.lt, h.wf⟩
  obtain ⟨q1, a, q2, q3⟩ := h.acs b hb p hp
  exact ⟨q1, a, q2, (va_up_ne _ _ (fun e => by rw [e, hn] at q3; cases q3)).trans q3⟩
theorem GC.app (h : GC n T z A hg ver cq fe tms ca wl wh ac th sx ld tr gf D) {q b : Nat} {t : tA} (hb : b < 6) (hz : z b < 32) (ht : okA t) (ha : AD D q = some t) : GC n T (va_up z b (z b + 1)) (va_up A (32 * b + z b) t) hg ver cq fe tms ca wl wh ac th sx ld tr gf (dQ D (29 + 2 * b + 1) (va_up (QD D (29 + 2 * b + 1)) (z b) (some q))) := by
  have hQ : ∀ j, j ≠ 29 + 2 * b + 1 → QD (dQ D (29 + 2 * b + 1) (va_up (QD D (29 + 2 * b + 1)) (z b) (some q))) j = QD D j := fun j hj => QD_n hj
  refine ⟨h.bs, h.h40, fun c => ?_, h.ln, h.wr, h.tm, fun c hc p hp => ?_, fun o ho => ?_, h.lt, fun i hi => ⟨fun o ho => ?_, (h.wf i hi).2⟩⟩
  · by_cases e : c = b
    · subst e; rw [va_up_self]; omega
    · rw [va_up_ne _ _ e]; exact h.z32 c
  · by_cases e : c = b
    · subst e
      rw [va_up_self] at hp
      rw [QD_s]
      by_cases e2 : p = z c
      · subst e2; rw [va_up_self, va_up_self]; exact ⟨ht, q, rfl, ha⟩
      · rw [va_up_ne _ _ (show 32 * c + p ≠ 32 * c + z c by omega), va_up_ne _ _ e2]; exact h.acs c hc p (by omega)
    · rw [va_up_ne _ _ e] at hp
      have z1 := h.z32 c
      rw [hQ _ (by omega), va_up_ne _ _ (show 32 * c + p ≠ 32 * b + z b by omega)]; exact h.acs c hc p hp
  · rw [hQ 1 (by omega)]; exact h.obs o ho
  · rcases (h.wf i hi).1 o ho with w | ⟨w1, c, w2⟩
    · exact Or.inl (by rw [hQ _ (by omega)]; exact w)
    · exact Or.inr ⟨w1, c, w2.ext (by rw [hQ _ (by omega)]) (fun x y hx _ => hx)⟩
/-- a new object -/
theorem GC.obj (h : GC n T z A hg ver cq fe tms ca wl wh ac th sx ld tr gf D) {q t : Nat} {b : tBo} (hn : n < 24) (ht : t < 3) (hq : BD D q = none) (hgb : gB b = (0, n)) (hy : yB b = t) (hbf : bfB b = none) (he : eqB t (cB b) (fstB t)) {c : tL} (ec : c = lD D) : GC (n + 1) (va_up T n t) z A hg (fun a => va_up (ver a) n (fstB t)) cq fe tms ca wl wh ac th sx ld tr gf (dL (nvD D n q b) c) := by
  subst ec
  have hT : ∀ o, o < n → va_up T n t o = T o := fun o ho => va_up_ne _ _ (by omega)
  refine ⟨⟨by omega, fun o => ?_⟩, h.h40, h.z32, h.ln, h.wr, h.tm, fun b6 hb p hp => ?_, fun p hp => ?_, h.lt, fun i hi => ⟨fun o ho => ?_, (h.wf i hi).2⟩⟩
  · by_cases e : o = n
    · rw [e, va_up_self]; exact ht
    · rw [va_up_ne _ _ e]; exact h.bs.2 o
  · obtain ⟨q1, a2, q2, q3⟩ := h.acs b6 hb p hp
    exact ⟨q1, a2, by show QD (nvD D n q b) _ p = _; rw [nvD_Q (by omega)]; exact q2, q3⟩
  · show (∀ x, x ≤ hg → okBd (n + 1) (va_up T n t p) (va_up (ver x) n (fstB t) p)) ∧ ∃ a L, QD (nvD D n q b) 1 p = some a ∧ chn (BD (nvD D n q b)) p (va_up T n t p) (fun x => va_up (ver x) n (fstB t) p) hg (a :: L)
    rw [nvD_1]
    by_cases e : p = n
    · subst e
      rw [va_up_self, va_up_self]
      refine ⟨fun x _ => by rw [va_up_self]; exact okBd_f, q, [], rfl, b, nvD_q, hgb, hy, hbf, fun x _ => ?_⟩
      show eqB t (cB b) (va_up (ver x) p (fstB t) p)
      rw [va_up_self]; exact he
    · have hp2 : p < n := by omega
      obtain ⟨q1, a2, L2, q2, q3⟩ := h.obs p hp2
      rw [hT p hp2, va_up_ne _ _ e]
      refine ⟨fun x hx => by rw [va_up_ne _ _ e]; exact okBd_up (q1 x hx), a2, L2, q2, chn.ext (fun x y hx _ => nvD_B hq hx) _ _ (fun x _ => by show eqB (T p) (ver x p) (va_up (ver x) n (fstB t) p); rw [va_up_ne _ _ e]; exact eqB.rf) q3⟩
  · rcases ((h.wf i hi).1.nv (o := n) (b := b) hq) o ho with w | ⟨w1, c, w2⟩
    · exact Or.inl w
    · refine Or.inr ⟨by omega, c, ?_⟩
      obtain ⟨a, b2, p1, p2, p3, p4, p5⟩ := w2
      exact ⟨a, b2, p1, p2, p3, by rw [hT o w1]; exact p4, by rw [hT o w1]; exact p5⟩
end GCa
/-! small numbers -/
theorem nI_shr : ∀ c, c < 384 → nI c >>> (1 &&& 31) = nI (c / 2) := by decide +kernel
theorem nI_and1 : ∀ c, c < 384 → nI c &&& 1 = nI (c % 2) := by decide +kernel
theorem b2i_not (b : Bool) : 1 - b2i b = b2i (!b) := by cases b <;> decide
