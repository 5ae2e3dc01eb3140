/-! THE CLAIM OUT OF ONE WALK OF THE LAW'S BODY. Your part is whole_start (and what it stands on); all else here is the same for every law, but numbers. -/
def R_law : String := "LazyStateLaw"
def lw_P (b : Addr) (xs : List Int32) (args : Array Value) (s : State) : Prop := args = #[.ref b] ∧ s.IntsAt b xs ∧ xs.length ≤ 4608 ∧ (Jvm.Cond.and given_1 narrow_1).before args s = true
def lw_Q (_ : Array Value) (s : State) (o : Outcome) (t : State) : Prop := o = .returned (some (.int 1)) ∧ Framed s o t [] 600000 7302250
def lw_Z (below : List Frame) (a : Array Value) (s : State) : State → Prop := fun t => ∃ o, t.status = .running ∧ Ended t below o ∧ lw_Q a s o t
/-- the law's own end, with 1 on the stack, nothing written that was there before, its room as the claim has it -/
theorem lw_ret {p : Program} {l : Launch} {e : Env} {s : State} {m : MethodId} {below : List Frame} {meth : Method} {c : Code} {b : Nat} (hx : p.tables.exec = Jvm.exec) (hb : c.code = code) (hr : meth.sig.returnType = ret) (hlocks : meth.locks = false) {pc : Nat} {H : Heap} {ls : Array Slot} (hdg : decode code pc = .ok (.ireturn, 1)) : W p l e room_1 s m #[Value.ref b] below meth c H [] 600000 7302250 (lw_Z below #[Value.ref b] s) (F0 m pc ls [.int 1]) := by
  intro T hT X
  obtain ⟨fs, hret, hrun, hended, hW, hframe⟩ := X.leave (v := some (.int 1)) (hlocks := hlocks) (fun h => by rw [hr] at h; cases h)
  have hmeth' : T.vm.method? m = some meth := X.method'
  refine ⟨T.setFrames fs, ?_, .returned (some (.int 1)), hrun, hended, rfl, ⟨_, rfl⟩, hW, hframe⟩
  jvm_step X.here [X.here.top, hx, hb, hdg, hmeth', hr, ret, narrow_b1]
  (try refine ⟨rfl, ?_⟩); (try refine ⟨rfl, ?_⟩)
  first | (intro acts; rw [hret _ acts rfl rfl rfl]) | rw [hret _ _ rfl rfl rfl]
  exact Steps.refl _
/-- what holds at the law's entry: the machine, the code, the tables' words (any of lw_tbl by 'hts w (by decide +kernel)'), the script of L ints xs at the cell b, what the Statement gives of the start (any of its parts by flat_of_before) -/
def lw_At (p : Program) (s : State) (m : MethodId) (meth : Method) (c : Code) (b L : Nat) (xs : Nat → Int32) : Prop :=
  p.tables.exec = Jvm.exec ∧ c.code = code ∧ meth.sig.returnType = ret ∧ c.maxLocals = 4 ∧ s.vm.findClass R_law = some m.cls ∧ (∀ w ∈ lw_tbl, w.before #[Value.ref b] s = true) ∧ va_X b L xs s s.heap ∧ b < s.heap.size ∧ meth.locks = false ∧ (Jvm.Cond.and given_1 narrow_1).before #[Value.ref b] s = true
set_option maxHeartbeats 4000000 in
set_option maxRecDepth 100000 in
theorem lw_world {p : Program} {s : State} {m : MethodId} {meth : Method} {c : Code} {b L : Nat} {xs : Nat → Int32} (C0 : lw_At p s m meth c b L xs) : ∃ G : mG, gN G = s.heap.size ∧ mC G s := by
  obtain ⟨hx, hb, hr, hml, hown, hts0, hX, hbl, hlk, hgv⟩ := C0
  have hts : ∀ w ∈ wsL_law, w.before #[Value.ref b] s = true := fun w h => hts0 w (wsL_law_in w h)
  have hs := flat_of_before _ hgv
  obtain ⟨c0, i0, K0⟩ := u_known (C := RX0) (T := TX0) (N := 6) hts inlX0 (hts (.instantiable RX0 6) (by decide +kernel))
  obtain ⟨c1, i1, K1⟩ := u_known (C := RX1) (T := TX1) (N := 2) hts inlX1 (hts (.instantiable RX1 2) (by decide +kernel))
  obtain ⟨c2, i2, K2⟩ := u_known (C := RX2) (T := TX2) (N := 5) hts inlX2 (hts (.instantiable RX2 5) (by decide +kernel))
  obtain ⟨c3, i3, K3⟩ := u_known (C := RX3) (T := TX3) (N := 11) hts inlX3 (hts (.instantiable RX3 11) (by decide +kernel))
  obtain ⟨c4, i4, K4⟩ := u_known (C := RX4) (T := TX4) (N := 5) hts inlX4 (hts (.instantiable RX4 5) (by decide +kernel))
  obtain ⟨c5, i5, K5⟩ := u_known (C := RX5) (T := TX5) (N := 14) hts inlX5 (hts (.instantiable RX5 14) (by decide +kernel))
  obtain ⟨c6, i6, K6⟩ := u_known (C := RX6) (T := TX6) (N := 30) hts inlX6 (hts (.instantiable RX6 30) (by decide +kernel))
  obtain ⟨ca0, ka0, co0, fa0, ga0, ha0⟩ := Cond.arrayClass_spec (hts (.arrayClass .int) (by decide +kernel))
  obtain ⟨ca1, ka1, co1, fa1, ga1, ha1⟩ := Cond.arrayClass_spec (hts (.arrayClass .long) (by decide +kernel))
  obtain ⟨ca2, ka2, co2, fa2, ga2, ha2⟩ := Cond.arrayClass_spec (hts (.arrayClass .boolean) (by decide +kernel))
  have ao3 : (Cond.arrayOver (.object RX2)).before #[Value.ref b] s = true := hts0 (.arrayOver (.object RX2)) (by decide +kernel)
  obtain ⟨co3, ca3, ka3, na3, -, ga3, ha3, fa3⟩ := Cond.arrayOver_spec ao3
  have ao4 : (Cond.arrayOver (.object RX1)).before #[Value.ref b] s = true := hts0 (.arrayOver (.object RX1)) (by decide +kernel)
  obtain ⟨co4, ca4, ka4, na4, -, ga4, ha4, fa4⟩ := Cond.arrayOver_spec ao4
  have ao5 : (Cond.arrayOver (.object RX0)).before #[Value.ref b] s = true := hts0 (.arrayOver (.object RX0)) (by decide +kernel)
  obtain ⟨co5, ca5, ka5, na5, -, ga5, ha5, fa5⟩ := Cond.arrayOver_spec ao5
  have hA : ∀ a : Nat, a < s.heap.size → ¬ s.heap.size ≤ a := fun a h1 h2 => by omega
  have elS : ∀ j : Nat, j < 24 → (Term.elem (Term.static RX2 "SORTS" "[I") (.int (Int32.ofNat j))).eval #[Value.ref b] s none [] s = some (.int (sortF j)) := fun j hj => Cond.eq_int (hs _ ((show ∀ j, j < 24 → Cond.eq (Term.elem (Term.static RX2 "SORTS" "[I") (.int (Int32.ofNat j))) (.int (sortF j)) ∈ flatC (Jvm.Cond.and given_1 narrow_1) from by decide +kernel) j hj)) rfl
  obtain ⟨tS, hvS, hTS⟩ := va_Tof (tm := (Term.static RX2 "SORTS" "[I")) (ty := .int) (N := 24) (f := fun j => .int (sortF j)) (A := fun q => s.heap.size ≤ q) (by decide) (hs (.arrayOf (Term.static RX2 "SORTS" "[I") .int) (by decide +kernel)) (Cond.eq_int (hs (.eq (.length (Term.static RX2 "SORTS" "[I")) (.int 24)) (by decide +kernel)) rfl) elS hA
  have hZS := va_Zref (A := fun q => s.heap.size ≤ q) (hts0 (.laysStatic RX2 "SORTS" "[I") (by decide +kernel)) (hts0 (.initialized RX2) (by decide +kernel)) hvS hA
  have elM : ∀ j : Nat, j < 90 → (Term.elem (Term.static RX0 "MOST" "[I") (.int (Int32.ofNat j))).eval #[Value.ref b] s none [] s = some (.int (mostF j)) := fun j hj => Cond.eq_int (hs _ ((show ∀ j, j < 90 → Cond.eq (Term.elem (Term.static RX0 "MOST" "[I") (.int (Int32.ofNat j))) (.int (mostF j)) ∈ flatC (Jvm.Cond.and given_1 narrow_1) from by decide +kernel) j hj)) rfl
  obtain ⟨tM, hvM, hTM⟩ := va_Tof (tm := (Term.static RX0 "MOST" "[I")) (ty := .int) (N := 90) (f := fun j => .int (mostF j)) (A := fun q => s.heap.size ≤ q) (by decide) (hs (.arrayOf (Term.static RX0 "MOST" "[I") .int) (by decide +kernel)) (Cond.eq_int (hs (.eq (.length (Term.static RX0 "MOST" "[I")) (.int 90)) (by decide +kernel)) rfl) elM hA
  have hZM := va_Zref (A := fun q => s.heap.size ≤ q) (hts0 (.laysStatic RX0 "MOST" "[I") (by decide +kernel)) (hts0 (.initialized RX0) (by decide +kernel)) hvM hA
  refine ⟨((fun j => match j with | 0 => c0 | 1 => c1 | 2 => c2 | 3 => c3 | 4 => c4 | 5 => c5 | _ => c6, fun j => match j with | 0 => i0 | 1 => i1 | 2 => i2 | 3 => i3 | 4 => i4 | 5 => i5 | _ => i6), (fun j => match j with | 0 => ca0 | 1 => ca1 | 2 => ca2 | 3 => ca3 | 4 => ca4 | _ => ca5), s.heap.size, tS, tM), rfl, Nat.le_refl _, ⟨⟨?_, ?_⟩, ?_⟩, hZS, hTS, hZM, hTM⟩
  · intro j q hq
    match j, hq with
    | 0, hq => cases hq; exact K0
    | 1, hq => cases hq; exact K1
    | 2, hq => cases hq; exact K2
    | 3, hq => cases hq; exact K3
    | 4, hq => cases hq; exact K4
    | 5, hq => cases hq; exact K5
    | 6, hq => cases hq; exact K6
    | _ + 7, hq => cases hq
  · intro j q hq
    match j, hq with
    | 0, hq => cases hq; exact ⟨fun N z => ⟨(fun k h => by cases h), ka0, ga0, co0, ha0⟩, fa0⟩
    | 1, hq => cases hq; exact ⟨fun N z => ⟨(fun k h => by cases h), ka1, ga1, co1, ha1⟩, fa1⟩
    | 2, hq => cases hq; exact ⟨fun N z => ⟨(fun k h => by cases h), ka2, ga2, co2, ha2⟩, fa2⟩
    | 3, hq => cases hq; exact ⟨fun N z => ⟨(fun k h => by cases h), ka3, ga3, co3, ha3⟩, ka3, co3, ga3, ha3, na3, fa3⟩
    | 4, hq => cases hq; exact ⟨fun N z => ⟨(fun k h => by cases h), ka4, ga4, co4, ha4⟩, ka4, co4, ga4, ha4, na4, fa4⟩
    | 5, hq => cases hq; exact ⟨fun N z => ⟨(fun k h => by cases h), ka5, ga5, co5, ha5⟩, ka5, co5, ga5, ha5, na5, fa5⟩
    | _ + 6, hq => cases hq
  · exact ⟨va_Nw.of rfl (hts0 (.methodLinkNest RX5 23 yX3_init "LazyState") (by decide +kernel)), va_Nw.of rfl (hts0 (.methodLinkNest RX5 45 yX1_init "LazyState") (by decide +kernel)), va_Nw.of rfl (hts0 (.methodLinkNest RX3 11 yX4_init "LazyState") (by decide +kernel)), va_Nw.of rfl (hts0 (.methodLinkNest RX3 97 yX5_bitOf "LazyState") (by decide +kernel)), va_AO.of ao3, va_AO.of ao4, va_AO.of ao5⟩
