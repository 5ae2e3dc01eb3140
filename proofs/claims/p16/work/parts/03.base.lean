/-! the world as a map from addresses to cells; rows over it -/
abbrev mF : Type := Nat → Option va_E
abbrev mG : Type := va_G × (Nat → ClassId) × Nat × Nat × Nat
abbrev gD (G : mG) : va_G := G.1
abbrev gk (G : mG) : Nat → ClassId := G.2.1
abbrev gN (G : mG) : Nat := G.2.2.1
abbrev gS (G : mG) : Nat := G.2.2.2.1
abbrev gM (G : mG) : Nat := G.2.2.2.2
abbrev mS : Type := (Nat → Nat × Nat) × mF
def mA (G : mG) : Nat → Prop := fun q => gN G ≤ q
abbrev mTy (G : mG) : List (ClassId × FieldType) := [(gk G 0, .int), (gk G 1, .long), (gk G 2, .boolean), (gk G 3, .object RX2), (gk G 4, .object RX1), (gk G 5, .object RX0)]
def mP (G : mG) (f : mF) (H : Heap) : Prop := ∀ (a : Nat) (e : va_E), f a = some e → va_at (gD G) vwCl (a, e) H
def mDom (G : mG) (f : mF) : Prop := ∀ (a : Nat) (e : va_E), f a = some e → gN G ≤ a
def sortL : List Int32 := [1, 1, 2, 0, 0, 0, 0, 0, 1, 1, 1, 2, 2, 3, 0, 0, 1, 3, 3, 2, 0, 0, 0, 0]
def sortF (j : Nat) : Int32 := sortL.getD j 0
def mostL : List Int32 := [3, -1, -1, -1, -1, 3, 3, 3, -1, -1, 3, 3, 3, -1, -1, 3, 3, 3, -1, -1, 3, 3, 7, -1, -1, 3, 7, 3, -1, -1, 3, 3, 7, -1, -1, 3, 7, 3, -1, -1, 3, 3, 7, 3, -1, 3, 7, 3, 3, -1, 3, 7, 3, -1, -1, 3, 7, 3, 7, 3, 3, 3, 3, -1, -1, 3, 3, 3, -1, -1, -1, 32, -1, -1, -1, 3, 32, -1, -1, -1, 3, -1, -1, -1, -1, -1, -1, -1, -1, -1]
def mostF (j : Nat) : Int32 := mostL.getD j 0
def mK (G : mG) (U : State) : Prop := va_K (gD G) vwCl (mTy G) U ∧ va_Nw (.methodLinkNest RX5 23 yX3_init "LazyState") U ∧ va_Nw (.methodLinkNest RX5 45 yX1_init "LazyState") U ∧ va_Nw (.methodLinkNest RX3 11 yX4_init "LazyState") U ∧ va_Nw (.methodLinkNest RX3 97 yX5_bitOf "LazyState") U ∧ va_AO RX2 U ∧ va_AO RX1 U ∧ va_AO RX0 U
def mZ (G : mG) (U : State) (H : Heap) : Prop := va_Z RX2 "SORTS" "[I" (.ref (gS G)) (mA G) U H ∧ va_T .int (gS G) 24 (fun j => .int (sortF j)) (mA G) U H ∧ va_Z RX0 "MOST" "[I" (.ref (gM G)) (mA G) U H ∧ va_T .int (gM G) 90 (fun j => .int (mostF j)) (mA G) U H
def mW (G : mG) (f : mF) (U : State) : Prop := gN G ≤ U.heap.size ∧ mDom G f ∧ mP G f U.heap ∧ mK G U ∧ mZ G U U.heap
/-- what a method knows all through its walk -/
def mC (G : mG) (s : State) : Prop := gN G ≤ s.heap.size ∧ mK G s ∧ mZ G s s.heap
/-- the heap now: it holds the map, and nothing below has changed -/
def mH (G : mG) (s : State) (f : mF) (H : Heap) (locs : List Loc) : Prop := mDom G f ∧ mP G f H ∧ va_S (mA G) s.heap H locs
theorem mK.warm {G : mG} {s U : State} (hW : s.WarmedH U.vm) (h : mK G s) : mK G U := by
  obtain ⟨h1, h2, h3, h4, h5, h6, h7, h8⟩ := h
  exact ⟨va_K.moved hW.alike h1, va_Nw.warmM hW h2, va_Nw.warmM hW h3, va_Nw.warmM hW h4, va_Nw.warmM hW h5, va_AO.moved hW.alike h6, va_AO.moved hW.alike h7, va_AO.moved hW.alike h8⟩
theorem mK.same {G : mG} {s U : State} (hv : s.vm = U.vm) (h : mK G s) : mK G U := by
  obtain ⟨h1, h2, h3, h4, h5, h6, h7, h8⟩ := h
  have ha : s.vm.Alike U.vm := by rw [hv]; exact Vm.Alike.refl _
  exact ⟨va_K.moved ha h1, va_Nw.same rfl hv h2, va_Nw.same rfl hv h3, va_Nw.same rfl hv h4, va_Nw.same rfl hv h5, va_AO.moved ha h6, va_AO.moved ha h7, va_AO.moved ha h8⟩
theorem mZ.moved {G : mG} {s U : State} {H : Heap} (hv : s.vm.Alike U.vm) (h : mZ G s H) : mZ G U H := ⟨h.1.moved hv, h.2.1.moved hv, h.2.2.1.moved hv, h.2.2.2.moved hv⟩
theorem mZ.kept {G : mG} {U : State} {H H1 : Heap} (h : mZ G U H) (hq : ∀ a : Nat, a < H.size → ¬ mA G a → H1[a]? = H[a]?) : mZ G U H1 := ⟨h.1.kept hq, h.2.1.kept hq, h.2.2.1.kept hq, h.2.2.2.kept hq⟩
theorem mW.blind {G : mG} {f : mF} {av : List Value} : FrameBlind (va_Pc av (mW G f)) := by
  intro a U g mk h
  obtain ⟨h0, h1, h2, h3, h4, h5⟩ := h
  exact ⟨h0, h1, h2, h3, mK.same (U := U.calling g mk a) rfl h4, mZ.moved (U := U.calling g mk a) (Vm.Alike.refl U.vm) h5⟩
theorem mH.start {G : mG} {s : State} {f : mF} (h : mW G f s) : mC G s ∧ mH G s f s.heap [] := ⟨⟨h.1, h.2.2.2.1, h.2.2.2.2⟩, h.2.1, h.2.2.1, va_S.rf⟩
theorem mH.post {G : mG} {s t : State} {f : mF} {H : Heap} {locs : List Loc} (C : mC G s) (h : mH G s f H locs) (ht : t.heap = H) (hW : s.WarmedH t.vm) : mW G f t := by
  subst ht
  exact ⟨Nat.le_trans C.1 h.2.2.1, h.1, h.2.1, mK.warm hW C.2.1, mZ.kept (mZ.moved hW.alike C.2.2) (fun a ha hA => h.2.2.2.1 a ha hA)⟩
theorem mP.one {G : mG} {f : mF} {H : Heap} (h : mP G f H) {a : Nat} {e : va_E} (ha : f a = some e) : va_P (gD G) vwCl [(a, e)] H := by
  intro k q hk
  have hz : k < 1 := (List.getElem?_eq_some_iff.mp hk).1
  rw [show k = 0 by omega] at hk
  cases hk
  exact h a e ha
theorem m_list {G : mG} {f : mF} {H : Heap} (h : mP G f H) (hd : mDom G f) : ∃ ws : va_W, va_P (gD G) vwCl ws H ∧ va_D (mA G) ws ∧ ∀ (a : Nat) (e : va_E), f a = some e → ∃ k : Nat, ws[k]? = some (a, e) := by
  have hm : ∀ (q : Nat × va_E), q ∈ (List.range H.size).filterMap (fun a => (f a).map (fun e => (a, e))) ↔ f q.1 = some q.2 := by
    intro q
    rw [List.mem_filterMap]
    constructor
    · rintro ⟨a, -, ha⟩
      cases hf : f a with
      | none => rw [hf] at ha; cases ha
      | some e => rw [hf] at ha; cases ha; exact hf
    · intro hq
      exact ⟨q.1, List.mem_range.mpr (h q.1 q.2 hq).lt, by rw [hq]; rfl⟩
  have hpw : ((List.range H.size).filterMap (fun a => (f a).map (fun e => (a, e)))).Pairwise (fun x y => x.1 < y.1) := by
    rw [List.pairwise_filterMap]
    refine List.pairwise_lt_range.imp ?_
    intro a b hab x hx y hy
    cases hfa : f a with
    | none => rw [hfa] at hx; cases hx
    | some e1 => cases hfb : f b with
      | none => rw [hfb] at hy; cases hy
      | some e2 => rw [hfa] at hx; rw [hfb] at hy; cases hx; cases hy; exact hab
  generalize (List.range H.size).filterMap (fun a => (f a).map (fun e => (a, e))) = ws at hm hpw
  rw [List.pairwise_iff_getElem] at hpw
  refine ⟨ws, fun k q hk => h q.1 q.2 ((hm q).mp (List.mem_of_getElem? hk)), ⟨fun i j p q hi hj hpq => ?_, fun k q hk => hd q.1 q.2 ((hm q).mp (List.mem_of_getElem? hk))⟩, fun a e ha => List.getElem?_of_mem ((hm (a, e)).mpr ha)⟩
  obtain ⟨li, ei⟩ := List.getElem?_eq_some_iff.mp hi
  obtain ⟨lj, ej⟩ := List.getElem?_eq_some_iff.mp hj
  rcases Nat.lt_trichotomy i j with hij | hij | hij
  · have := hpw i j li lj hij
    rw [ei, ej] at this
    omega
  · exact hij
  · have := hpw j i lj li hij
    rw [ei, ej] at this
    omega
theorem m_back {G : mG} {f : mF} {H1 : Heap} {ws : va_W} {q0 a : Nat} {e e' : va_E} (hi : ∀ (a : Nat) (e : va_E), f a = some e → ∃ k : Nat, ws[k]? = some (a, e)) (h0 : ws[q0]? = some (a, e)) (hP : va_P (gD G) vwCl (ws.set q0 (a, e')) H1) : mP G (va_up f a (some e')) H1 := by
  intro b x hb
  by_cases hba : b = a
  · subst hba
    rw [va_up_self] at hb
    cases hb
    exact hP q0 (b, e') (List.getElem?_set_self (List.getElem?_eq_some_iff.mp h0).1)
  · rw [va_up_ne _ _ hba] at hb
    obtain ⟨k, hk⟩ := hi b x hb
    have hne : k ≠ q0 := fun hq => by
      subst hq
      rw [h0] at hk
      cases hk
      exact hba rfl
    exact hP k (b, x) (by rw [List.getElem?_set_ne (Ne.symm hne)]; exact hk)
theorem m_domU {G : mG} {f : mF} {a : Nat} {e : va_E} (hd : mDom G f) (ha : gN G ≤ a) : mDom G (va_up f a (some e)) := by
  intro b x hb
  by_cases hba : b = a
  · subst hba; exact ha
  · rw [va_up_ne _ _ hba] at hb
    exact hd b x hb
theorem m_push {G : mG} {f : mF} {H H1 : Heap} {e : va_E} (h : mP G f H) (he : va_at (gD G) vwCl (H.size, e) H1) (o1 : ∀ q : Nat, q < H.size → H1[q]? = H[q]?) : mP G (va_up f H.size (some e)) H1 := by
  intro b x hb
  by_cases hba : b = H.size
  · subst hba
    rw [va_up_self] at hb
    cases hb
    exact he
  · rw [va_up_ne _ _ hba] at hb
    exact (h b x hb).kept (o1 b (h b x hb).lt)
section MR
variable {p : Program} {l : Launch} {e : Env} {R : Room} {s : State} {m : MethodId} {args : Array Value} {below : List Frame} {meth : Method} {c : Code} {H : Heap} {locs : List Loc} {cells slots : Nat} {Q : State → Prop}
variable {cc : ByteArray} {pc : Nat} {ls : Array Slot} {rest : List Value} {a : Nat} {G : mG} {f : mF}
theorem m_get (hexec : p.tables.exec = Jvm.exec) (hb : c.code = cc) (C0 : mC G s) (h : mH G s f H locs) {own C : String} {T : u_T} {N ci index : Nat} {Ts : List Cond} (hts : ∀ w ∈ Ts, w.before args s = true) (hin : ∀ w ∈ u_ws C T N, w ∈ Ts) (hown : s.vm.findClass own = some m.cls) {fs : List Value} (he : f a = some (.inr (ci, fs))) (hc : vwCl[ci]? = some (C, T, N)) (k : Nat) (hk : k < N) (hlink : (Cond.fieldLink own index (T k).1 (T k).2.1 (T k).2.2.1).before args s = true) {v : Value} (hv : fs[k]? = some v) (hdg : decode cc pc = .ok (.getfield index, 3))
    (kk : W p l e R s m args below meth c H locs cells slots Q (F0 m (pc + 3) ls (v :: rest))) : W p l e R s m args below meth c H locs cells slots Q (F0 m pc ls (.ref a :: rest)) :=
  va_get hexec hb hts hin hown C0.2.1.1 (h.2.1.one he) 0 rfl hc k hk hlink (fun _ q => q) hv hdg kk
theorem m_put (hexec : p.tables.exec = Jvm.exec) (hb : c.code = cc) (C0 : mC G s) (h : mH G s f H locs) {own C : String} {T : u_T} {N ci index : Nat} {Ts : List Cond} (hts : ∀ w ∈ Ts, w.before args s = true) (hin : ∀ w ∈ u_ws C T N, w ∈ Ts) (ty0 : Nat → FieldType) (hty : ∀ k, k < N → parseFieldDescriptor (T k).2.2.1 = some (ty0 k)) (hnm : ∀ a, a < N → ∀ b, b < N → a ≠ b → (T a).2.1 ≠ (T b).2.1) (hown : s.vm.findClass own = some m.cls) {fs : List Value} (he : f a = some (.inr (ci, fs))) (hc : vwCl[ci]? = some (C, T, N)) (k : Nat) (hk : k < N) (hlink : (Cond.fieldLink own index (T k).1 (T k).2.1 (T k).2.2.1).before args s = true) (hfin : (T k).2.2.2 = false) {v : Value} (hn : narrow (ty0 k) v = v) (hfit : fits (ty0 k) v = true) (hl : k < fs.length) (hdg : decode cc pc = .ok (.putfield index, 3))
    (kk : ∀ (H1 : Heap) (locs1 : List Loc), mH G s (va_up f a (some (.inr (ci, fs.set k v)))) H1 locs1 → W p l e R s m args below meth c H1 locs1 cells slots Q (F0 m (pc + 3) ls rest)) : W p l e R s m args below meth c H locs cells slots Q (F0 m pc ls (v :: .ref a :: rest)) := by
  obtain ⟨ws, hP, hD, hi⟩ := m_list h.2.1 h.1
  obtain ⟨q0, h0⟩ := hi a _ he
  exact va_put hexec hb hts hin ty0 hty hnm hown C0.2.1.1 hP hD h.2.2 q0 h0 hc k hk hlink (fun _ q => q) hfin (hty k hk) hn hfit hl hdg (fun H1 locs1 hP1 _ hS1 => kk H1 locs1 ⟨m_domU h.1 (h.1 a _ he), m_back hi h0 hP1, hS1⟩)
theorem m_putF (hexec : p.tables.exec = Jvm.exec) (hb : c.code = cc) (C0 : mC G s) (h : mH G s f H locs) {own C : String} {T : u_T} {N ci index : Nat} {Ts : List Cond} (hts : ∀ w ∈ Ts, w.before args s = true) (hin : ∀ w ∈ u_ws C T N, w ∈ Ts) (ty0 : Nat → FieldType) (hty : ∀ k, k < N → parseFieldDescriptor (T k).2.2.1 = some (ty0 k)) (hnm : ∀ a, a < N → ∀ b, b < N → a ≠ b → (T a).2.1 ≠ (T b).2.1) (hown : s.vm.findClass own = some m.cls) {fs : List Value} (he : f a = some (.inr (ci, fs))) (hc : vwCl[ci]? = some (C, T, N)) (k : Nat) (hk : k < N) (hlink : (Cond.fieldLink own index (T k).1 (T k).2.1 (T k).2.2.1).before args s = true) (hfin : (T k).2.2.2 = true) (hin2 : meth.name = "<init>") (hdecl : (T k).1 = own) {v : Value} (hn : narrow (ty0 k) v = v) (hfit : fits (ty0 k) v = true) (hl : k < fs.length) (hdg : decode cc pc = .ok (.putfield index, 3))
    (kk : ∀ (H1 : Heap) (locs1 : List Loc), mH G s (va_up f a (some (.inr (ci, fs.set k v)))) H1 locs1 → W p l e R s m args below meth c H1 locs1 cells slots Q (F0 m (pc + 3) ls rest)) : W p l e R s m args below meth c H locs cells slots Q (F0 m pc ls (v :: .ref a :: rest)) := by
  obtain ⟨ws, hP, hD, hi⟩ := m_list h.2.1 h.1
  obtain ⟨q0, h0⟩ := hi a _ he
  exact va_putF hexec hb hts hin ty0 hty hnm hown C0.2.1.1 hP hD h.2.2 q0 h0 hc k hk hlink (fun _ q => q) hfin hin2 hdecl (hty k hk) hn hfit hl hdg (fun H1 locs1 hP1 _ hS1 => kk H1 locs1 ⟨m_domU h.1 (h.1 a _ he), m_back hi h0 hP1, hS1⟩)
theorem m_iald (hexec : p.tables.exec = Jvm.exec) (hb : c.code = cc) (C0 : mC G s) (h : mH G s f H locs) {n : Nat} {g : Nat → Int32} (he : f a = some (.inl (gk G 0, n, .inl g))) {i : Int32} (hin : vp_in i n) (hdg : decode cc pc = .ok (.iaload, 1))
    (kk : W p l e R s m args below meth c H locs cells slots Q (F0 m (pc + 1) ls (.int (g i.toNatClampNeg) :: rest))) : W p l e R s m args below meth c H locs cells slots Q (F0 m pc ls (.int i :: .ref a :: rest)) :=
  va_iald hexec hb C0.2.1.1 (h.2.1.one he) 0 0 rfl rfl hin hdg kk
theorem m_lald (hexec : p.tables.exec = Jvm.exec) (hb : c.code = cc) (C0 : mC G s) (h : mH G s f H locs) {n : Nat} {g : Nat → Int64} (he : f a = some (.inl (gk G 1, n, .inr (.inl g)))) {i : Int32} (hin : vp_in i n) (hdg : decode cc pc = .ok (.laload, 1))
    (kk : W p l e R s m args below meth c H locs cells slots Q (F0 m (pc + 1) ls (.long (g i.toNatClampNeg) :: rest))) : W p l e R s m args below meth c H locs cells slots Q (F0 m pc ls (.int i :: .ref a :: rest)) :=
  va_lald hexec hb C0.2.1.1 (h.2.1.one he) 0 1 rfl rfl hin hdg kk
theorem m_zald (hexec : p.tables.exec = Jvm.exec) (hb : c.code = cc) (C0 : mC G s) (h : mH G s f H locs) {n : Nat} {g : Nat → Int32} (he : f a = some (.inl (gk G 2, n, .inl g))) {i : Int32} (hin : vp_in i n) (hdg : decode cc pc = .ok (.baload, 1))
    (kk : W p l e R s m args below meth c H locs cells slots Q (F0 m (pc + 1) ls (.int (g i.toNatClampNeg) :: rest))) : W p l e R s m args below meth c H locs cells slots Q (F0 m pc ls (.int i :: .ref a :: rest)) :=
  va_zald hexec hb C0.2.1.1 (h.2.1.one he) 0 2 rfl rfl hin hdg kk
theorem m_aald (hexec : p.tables.exec = Jvm.exec) (hb : c.code = cc) (C0 : mC G s) (h : mH G s f H locs) {cA : ClassId} {n : Nat} {g : Nat → Option Nat} (t0 : Nat) {C : String} (ht : (mTy G)[t0]? = some (cA, .object C)) (he : f a = some (.inl (cA, n, .inr (.inr (.inr (.inr g)))))) {i : Int32} (hin : vp_in i n) (hdg : decode cc pc = .ok (.aaload, 1))
    (kk : W p l e R s m args below meth c H locs cells slots Q (F0 m (pc + 1) ls (va_rf (g i.toNatClampNeg) :: rest))) : W p l e R s m args below meth c H locs cells slots Q (F0 m pc ls (.int i :: .ref a :: rest)) :=
  va_aldq hexec hb C0.2.1.1 (h.2.1.one he) 0 t0 rfl ht hin hdg kk
theorem m_alen (hexec : p.tables.exec = Jvm.exec) (hb : c.code = cc) (C0 : mC G s) (h : mH G s f H locs) {cA : ClassId} {x : vp_A} (t0 : Nat) {ty : FieldType} (ht : (mTy G)[t0]? = some (cA, ty)) (he : f a = some (.inl (cA, x))) {v : Int32} (hv : Int32.ofNat x.1 = v) (hdg : decode cc pc = .ok (.arraylength, 1))
    (kk : W p l e R s m args below meth c H locs cells slots Q (F0 m (pc + 1) ls (.int v :: rest))) : W p l e R s m args below meth c H locs cells slots Q (F0 m pc ls (.ref a :: rest)) :=
  va_alen hexec hb C0.2.1.1 (h.2.1.one he) 0 t0 rfl ht hv hdg kk
theorem m_iast (hexec : p.tables.exec = Jvm.exec) (hb : c.code = cc) (C0 : mC G s) (h : mH G s f H locs) {n : Nat} {g : Nat → Int32} (he : f a = some (.inl (gk G 0, n, .inl g))) {i x : Int32} (hin : vp_in i n) (hdg : decode cc pc = .ok (.iastore, 1))
    (kk : ∀ (H1 : Heap) (locs1 : List Loc), mH G s (va_up f a (some (.inl (gk G 0, n, .inl (upd g i.toNatClampNeg x))))) H1 locs1 → W p l e R s m args below meth c H1 locs1 cells slots Q (F0 m (pc + 1) ls rest)) : W p l e R s m args below meth c H locs cells slots Q (F0 m pc ls (.int x :: .int i :: .ref a :: rest)) := by
  obtain ⟨ws, hP, hD, hi⟩ := m_list h.2.1 h.1
  obtain ⟨q0, h0⟩ := hi a _ he
  exact va_iast hexec hb C0.2.1.1 hP hD h.2.2 q0 0 h0 rfl hin hdg (fun H1 locs1 hP1 _ hS1 => kk H1 locs1 ⟨m_domU h.1 (h.1 a _ he), m_back hi h0 hP1, hS1⟩)
theorem m_zast (hexec : p.tables.exec = Jvm.exec) (hb : c.code = cc) (C0 : mC G s) (h : mH G s f H locs) {n : Nat} {g : Nat → Int32} (he : f a = some (.inl (gk G 2, n, .inl g))) {i x : Int32} (hin : vp_in i n) (hdg : decode cc pc = .ok (.bastore, 1))
    (kk : ∀ (H1 : Heap) (locs1 : List Loc), mH G s (va_up f a (some (.inl (gk G 2, n, .inl (upd g i.toNatClampNeg (vp_nar .boolean x)))))) H1 locs1 → W p l e R s m args below meth c H1 locs1 cells slots Q (F0 m (pc + 1) ls rest)) : W p l e R s m args below meth c H locs cells slots Q (F0 m pc ls (.int x :: .int i :: .ref a :: rest)) := by
  obtain ⟨ws, hP, hD, hi⟩ := m_list h.2.1 h.1
  obtain ⟨q0, h0⟩ := hi a _ he
  exact va_zast hexec hb C0.2.1.1 hP hD h.2.2 q0 2 h0 rfl hin hdg (fun H1 locs1 hP1 _ hS1 => kk H1 locs1 ⟨m_domU h.1 (h.1 a _ he), m_back hi h0 hP1, hS1⟩)
theorem m_last (hexec : p.tables.exec = Jvm.exec) (hb : c.code = cc) (C0 : mC G s) (h : mH G s f H locs) {n : Nat} {g : Nat → Int64} (he : f a = some (.inl (gk G 1, n, .inr (.inl g)))) {i : Int32} {x : Int64} (hin : vp_in i n) (hdg : decode cc pc = .ok (.lastore, 1))
    (kk : ∀ (H1 : Heap) (locs1 : List Loc), mH G s (va_up f a (some (.inl (gk G 1, n, .inr (.inl (vp_updL g i.toNatClampNeg x)))))) H1 locs1 → W p l e R s m args below meth c H1 locs1 cells slots Q (F0 m (pc + 1) ls rest)) : W p l e R s m args below meth c H locs cells slots Q (F0 m pc ls (.long x :: .int i :: .ref a :: rest)) := by
  obtain ⟨ws, hP, hD, hi⟩ := m_list h.2.1 h.1
  obtain ⟨q0, h0⟩ := hi a _ he
  exact va_last hexec hb C0.2.1.1 hP hD h.2.2 q0 1 h0 rfl hin hdg (fun H1 locs1 hP1 _ hS1 => kk H1 locs1 ⟨m_domU h.1 (h.1 a _ he), m_back hi h0 hP1, hS1⟩)
theorem m_aast (hexec : p.tables.exec = Jvm.exec) (hb : c.code = cc) (C0 : mC G s) (h : mH G s f H locs) {cA : ClassId} {r : vw_C} {n v ci : Nat} {vs : List Value} {g : Nat → Option Nat} (t0 : Nat) (ht : (mTy G)[t0]? = some (cA, .object r.1)) (he : f a = some (.inl (cA, n, .inr (.inr (.inr (.inr g)))))) (hv : f v = some (.inr (ci, vs))) (hc : vwCl[ci]? = some r) {i : Int32} (hin : vp_in i n) (hdg : decode cc pc = .ok (.aastore, 1))
    (kk : ∀ (H1 : Heap) (locs1 : List Loc), mH G s (va_up f a (some (.inl (cA, n, .inr (.inr (.inr (.inr (va_up g i.toNatClampNeg (some v))))))))) H1 locs1 → W p l e R s m args below meth c H1 locs1 cells slots Q (F0 m (pc + 1) ls rest)) : W p l e R s m args below meth c H locs cells slots Q (F0 m pc ls (.ref v :: .int i :: .ref a :: rest)) := by
  obtain ⟨ws, hP, hD, hi⟩ := m_list h.2.1 h.1
  obtain ⟨q0, h0⟩ := hi a _ he
  obtain ⟨q1, h1⟩ := hi v _ hv
  exact va_astq hexec hb C0.2.1.1 hP hD h.2.2 q0 t0 q1 ci h0 ht h1 hc hin hdg (fun H1 locs1 hP1 _ hS1 => kk H1 locs1 ⟨m_domU h.1 (h.1 a _ he), m_back hi h0 hP1, hS1⟩)
theorem m_gets (hexec : p.tables.exec = Jvm.exec) (hb : c.code = cc) {Cn n d own : String} {v : Value} {index : Nat} (hZ : va_Z Cn n d v (mA G) s s.heap) (h : mH G s f H locs) (hown : s.vm.findClass own = some m.cls) (hlink : (Cond.fieldLink own index Cn n d).before args s = true) (hdg : decode cc pc = .ok (.getstatic index, 3))
    (kk : W p l e R s m args below meth c H locs cells slots Q (F0 m (pc + 3) ls (v :: rest))) : W p l e R s m args below meth c H locs cells slots Q (F0 m pc ls rest) :=
  va_gets hexec hb hZ h.2.2 hown hlink (fun _ q => q) hdg kk
theorem m_ti (hexec : p.tables.exec = Jvm.exec) (hb : c.code = cc) {t N : Nat} {g : Nat → Int32} (hT : va_T .int t N (fun j => .int (g j)) (mA G) s s.heap) (h : mH G s f H locs) {i : Int32} (hin : vp_in i N) (hdg : decode cc pc = .ok (.iaload, 1))
    (kk : W p l e R s m args below meth c H locs cells slots Q (F0 m (pc + 1) ls (.int (g i.toNatClampNeg) :: rest))) : W p l e R s m args below meth c H locs cells slots Q (F0 m pc ls (.int i :: .ref t :: rest)) :=
  va_ti hexec hb hT h.2.2 hin rfl hdg kk
theorem m_new (hexec : p.tables.exec = Jvm.exec) (hb : c.code = cc) (C0 : mC G s) (h : mH G s f H locs) {own C : String} {T : u_T} {N ci index : Nat} {Ts : List Cond} (hts : ∀ w ∈ Ts, w.before args s = true) (hin : ∀ w ∈ u_ws C T N, w ∈ Ts) (ty : Nat → FieldType) (hty : ∀ k, k < N → parseFieldDescriptor (T k).2.2.1 = some (ty k)) (hown : s.vm.findClass own = some m.cls) (hcl : (Cond.classLink own index C).before args s = true) (hinst : (Cond.instantiable C N).before args s = true) (hini : (Cond.initialized C).before args s = true) (hc : vwCl[ci]? = some (C, T, N)) {fs : List Value} (hfs : ∀ j, j < N → defaultValue (ty j) = vp_V fs j) (hcells : cells + 1 ≤ R.cells) (hslots : slots + N ≤ R.slots) (hdg : decode cc pc = .ok (.new index, 3))
    (kk : ∀ (q : Nat) (H1 : Heap), (∀ (a : Nat) (e : va_E), f a = some e → a < q) → gN G ≤ q → f q = none → mH G s (va_up f q (some (.inr (ci, fs)))) H1 locs → W p l e R s m args below meth c H1 locs (cells + 1) (slots + N) Q (F0 m (pc + 3) ls (.ref q :: rest))) : W p l e R s m args below meth c H locs cells slots Q (F0 m pc ls rest) := by
  have hKn := C0.2.1.1.1 ci _ hc
  refine W.newcK hexec hb hown hcl hinst hini rfl hdg hcells hslots hKn.2.1 rfl fun H1 kC hkC e1 z1 o1 => ?_
  have hlt : ∀ (a : Nat) (e : va_E), f a = some e → a < H.size := fun a e ha => (h.2.1 a e ha).lt
  have hno : f H.size = none := by
    cases hq : f H.size with
    | none => rfl
    | some e => exact absurd (hlt _ _ hq) (Nat.lt_irrefl _)
  have hle : gN G ≤ H.size := Nat.le_trans C0.1 h.2.2.1
  exact kk H.size H1 hlt hle hno ⟨m_domU h.1 hle, m_push h.2.1 ⟨_, hc, (u_born ty hts hin hKn hkC e1 hty).to hfs⟩ o1, Nat.le_trans h.2.2.1 (by omega), fun x h1 h2 => (o1 x (Nat.lt_of_lt_of_le h1 h.2.2.1)).trans (h.2.2.2.1 x h1 h2), h.2.2.2.2⟩
theorem m_newa (hexec : p.tables.exec = Jvm.exec) (hb : c.code = cc) (C0 : mC G s) (h : mH G s f H locs) {atype : ArrayType} (harr : (Cond.arrayClass (newarray.typeOf atype)).before args s = true) {cA : ClassId} (hcA : s.vm.findClass ("[" ++ (newarray.typeOf atype).toString) = some cA)
    {n : Int32} {N' : Nat} {a0 : vp_A} (ha : vp_cell cA a0 = arrV cA N' (fun _ => defaultValue (newarray.typeOf atype))) (hn : ¬ n < 0) (hN : n.toNatClampNeg = N') (hbytes : N' * componentBytes (newarray.typeOf atype) ≤ 536870912) (hcells : cells + 1 ≤ R.cells) (hslots : slots + N' ≤ R.slots) (hdg : decode cc pc = .ok (.newarray atype, 2))
    (kk : ∀ (q : Nat) (H1 : Heap), (∀ (a : Nat) (e : va_E), f a = some e → a < q) → gN G ≤ q → f q = none → mH G s (va_up f q (some (.inl (cA, a0)))) H1 locs → W p l e R s m args below meth c H1 locs (cells + 1) (slots + N') Q (F0 m (pc + 2) ls (.ref q :: rest))) : W p l e R s m args below meth c H locs cells slots Q (F0 m pc ls (.int n :: rest)) := by
  refine va_newaK hexec hb harr rfl hdg rfl hn hN hbytes hcells hslots rfl fun H1 cA' e1 z1 o1 hAr hNm => ?_
  have hc : cA' = cA := Option.some.inj (hNm.symm.trans hcA)
  subst hc
  have hlt : ∀ (a : Nat) (e : va_E), f a = some e → a < H.size := fun a e ha => (h.2.1 a e ha).lt
  have hno : f H.size = none := by
    cases hq : f H.size with
    | none => rfl
    | some e => exact absurd (hlt _ _ hq) (Nat.lt_irrefl _)
  have hle : gN G ≤ H.size := Nat.le_trans C0.1 h.2.2.1
  exact kk H.size H1 hlt hle hno ⟨m_domU h.1 hle, m_push h.2.1 (show H1[H.size]? = some (vp_cell _ _) by rw [ha]; exact e1) o1, Nat.le_trans h.2.2.1 (by omega), fun x h1 h2 => (o1 x (Nat.lt_of_lt_of_le h1 h.2.2.1)).trans (h.2.2.2.1 x h1 h2), h.2.2.2.2⟩
theorem m_newq (hexec : p.tables.exec = Jvm.exec) (hb : c.code = cc) (C0 : mC G s) (h : mH G s f H locs) {own C : String} {index : Nat} (hown : s.vm.findClass own = some m.cls) (hclink : (Cond.classLink own index C).before args s = true) (hover : va_AO C s) {cA : ClassId} (hcA : s.vm.findClass ("[" ++ (FieldType.object C).toString) = some cA)
    {n : Int32} {N' : Nat} (hn : ¬ n < 0) (hN : n.toNatClampNeg = N') (hbytes : N' * 4 ≤ 536870912) (hcells : cells + 1 ≤ R.cells) (hslots : slots + N' ≤ R.slots) (hdg : decode cc pc = .ok (.anewarray index, 3))
    (kk : ∀ (q : Nat) (H1 : Heap), (∀ (a : Nat) (e : va_E), f a = some e → a < q) → gN G ≤ q → f q = none → mH G s (va_up f q (some (.inl (cA, N', .inr (.inr (.inr (.inr (fun _ => none)))))))) H1 locs → W p l e R s m args below meth c H1 locs (cells + 1) (slots + N') Q (F0 m (pc + 3) ls (.ref q :: rest))) : W p l e R s m args below meth c H locs cells slots Q (F0 m pc ls (.int n :: rest)) := by
  subst hN
  refine W.anew hexec hb hown hclink (va_AO.use hover) rfl hdg rfl hn hbytes hcells hslots fun cA' kA comp f1 f2 f3 f4 => ?_
  have hc : cA' = cA := Option.some.inj (f1.symm.trans hcA)
  subst hc
  generalize hH1 : H.push ({ cls := cA', slots := Array.replicate n.toNatClampNeg .null, vm := .none } : Cell) = H1
  have z1 : H1.size = H.size + 1 := by rw [← hH1, Array.size_push]
  have e1 : H1[H.size]? = some (arrV cA' n.toNatClampNeg (fun _ => .null)) := by rw [← hH1, Array.getElem?_push_size, ← arrV_new]
  have o1 : ∀ q : Nat, q < H.size → H1[q]? = H[q]? := fun q hq => by rw [← hH1, Array.getElem?_push, if_neg (Nat.ne_of_lt hq)]
  have hlt : ∀ (a : Nat) (e : va_E), f a = some e → a < H.size := fun a e ha => (h.2.1 a e ha).lt
  have hno : f H.size = none := by
    cases hq : f H.size with
    | none => rfl
    | some e => exact absurd (hlt _ _ hq) (Nat.lt_irrefl _)
  have hle : gN G ≤ H.size := Nat.le_trans C0.1 h.2.2.1
  exact kk H.size H1 hlt hle hno ⟨m_domU h.1 hle, m_push h.2.1 (show H1[H.size]? = some (vp_cell _ _) by rw [vp_cell_q]; exact e1) o1, Nat.le_trans h.2.2.1 (by omega), fun x h1 h2 => (o1 x (Nat.lt_of_lt_of_le h1 h.2.2.1)).trans (h.2.2.2.1 x h1 h2), h.2.2.2.2⟩
theorem m_copyi (hexec : p.tables.exec = Jvm.exec) (hb : c.code = cc) (hml : c.maxLocals = ls.size) (C0 : mC G s) (h : mH G s f H locs) {own : String} {index : Nat} (hown : s.vm.findClass own = some m.cls) (hlink : (Cond.methodLink own index arraycopyName).before args s = true) (hnat : (Cond.native arraycopyName).before args s = true) (hstat : (Cond.static arraycopyName).before args s = true) (hini : (Cond.initialized "java/lang/System").before args s = true)
    {a0 n0 n1 : Nat} {g0 g1 : Nat → Int32} (he0 : f a0 = some (.inl (gk G 0, n0, .inl g0))) (he1 : f a = some (.inl (gk G 0, n1, .inl g1))) {sp dp n : Int32} (h1 : ¬ sp < 0) (h2 : ¬ dp < 0) (h3 : ¬ n < 0) (h4 : sp.toNatClampNeg + n.toNatClampNeg ≤ n0) (h5 : dp.toNatClampNeg + n.toNatClampNeg ≤ n1)
    (hframes : 1 ≤ R.frames) (hlocals : (rest.map fun v => v.category).sum + (nativeFrameWords "java/lang/System" "arraycopy" 5 + 11) ≤ R.locals) (hdg : decode cc pc = .ok (.invokestatic index, 3))
    (kk : ∀ (H1 : Heap) (locs1 : List Loc), mH G s (va_up f a (some (.inl (gk G 0, n1, .inl (va_cpy g0 g1 sp.toNatClampNeg dp.toNatClampNeg n.toNatClampNeg))))) H1 locs1 → W p l e R s m args below meth c H1 locs1 cells slots Q (F0 m (pc + 3) ls rest)) : W p l e R s m args below meth c H locs cells slots Q (F0 m pc ls (.int n :: .int dp :: .ref a :: .int sp :: .ref a0 :: rest)) := by
  obtain ⟨ws, hP, hD, hi⟩ := m_list h.2.1 h.1
  obtain ⟨q0, i0⟩ := hi a0 _ he0
  obtain ⟨q1, i1⟩ := hi a _ he1
  exact va_copyi hexec hb hml hown hlink hnat hstat hini C0.2.1.1 hP hD h.2.2 q0 q1 0 0 (ty := .int) i0 i1 rfl rfl rfl h1 h2 h3 h4 h5 (fun i _ => rfl) hframes hlocals hdg (fun H1 locs1 hP1 _ hS1 => kk H1 locs1 ⟨m_domU h.1 (h.1 a _ he1), m_back hi i1 hP1, hS1⟩)
theorem m_copyl (hexec : p.tables.exec = Jvm.exec) (hb : c.code = cc) (hml : c.maxLocals = ls.size) (C0 : mC G s) (h : mH G s f H locs) {own : String} {index : Nat} (hown : s.vm.findClass own = some m.cls) (hlink : (Cond.methodLink own index arraycopyName).before args s = true) (hnat : (Cond.native arraycopyName).before args s = true) (hstat : (Cond.static arraycopyName).before args s = true) (hini : (Cond.initialized "java/lang/System").before args s = true)
    {a0 n0 n1 : Nat} {g0 g1 : Nat → Int64} (he0 : f a0 = some (.inl (gk G 1, n0, .inr (.inl g0)))) (he1 : f a = some (.inl (gk G 1, n1, .inr (.inl g1)))) {sp dp n : Int32} (h1 : ¬ sp < 0) (h2 : ¬ dp < 0) (h3 : ¬ n < 0) (h4 : sp.toNatClampNeg + n.toNatClampNeg ≤ n0) (h5 : dp.toNatClampNeg + n.toNatClampNeg ≤ n1)
    (hframes : 1 ≤ R.frames) (hlocals : (rest.map fun v => v.category).sum + (nativeFrameWords "java/lang/System" "arraycopy" 5 + 11) ≤ R.locals) (hdg : decode cc pc = .ok (.invokestatic index, 3))
    (kk : ∀ (H1 : Heap) (locs1 : List Loc), mH G s (va_up f a (some (.inl (gk G 1, n1, .inr (.inl (va_cpy g0 g1 sp.toNatClampNeg dp.toNatClampNeg n.toNatClampNeg)))))) H1 locs1 → W p l e R s m args below meth c H1 locs1 cells slots Q (F0 m (pc + 3) ls rest)) : W p l e R s m args below meth c H locs cells slots Q (F0 m pc ls (.int n :: .int dp :: .ref a :: .int sp :: .ref a0 :: rest)) := by
  obtain ⟨ws, hP, hD, hi⟩ := m_list h.2.1 h.1
  obtain ⟨q0, i0⟩ := hi a0 _ he0
  obtain ⟨q1, i1⟩ := hi a _ he1
  exact va_copyl hexec hb hml hown hlink hnat hstat hini C0.2.1.1 hP hD h.2.2 q0 q1 1 1 (ty := .long) i0 i1 rfl rfl rfl h1 h2 h3 h4 h5 (fun i _ => rfl) hframes hlocals hdg (fun H1 locs1 hP1 _ hS1 => kk H1 locs1 ⟨m_domU h.1 (h.1 a _ he1), m_back hi i1 hP1, hS1⟩)
theorem m_preV (C0 : mC G s) (h : mH G s f H locs) {ci : Nat} {q : vw_C} {fs As : List Value} (he : f a = some (.inr (ci, fs))) (hc : vwCl[ci]? = some q) : PreV s H q.1 a (va_Pc (.ref a :: As) (mW G f)) As :=
  ⟨mW.blind, va_recv C0.2.1.1 (h.2.1.one he) hc (q0 := 0) rfl, fun U hU hW => ⟨rfl, h.post C0 hU hW⟩⟩
theorem m_preS (C0 : mC G s) (h : mH G s f H locs) {As : List Value} : PreS s H (va_Pc As (mW G f)) As := ⟨mW.blind, fun U hU hW => ⟨rfl, h.post C0 hU hW⟩⟩
variable {st0 : List Value} {av : Array Value} {mc ms : Nat}
theorem m_goi {post : Int32 → mS → Prop} (h : mH G s f H locs) (hr : va_Run p l e R s m args below meth c H locs cells slots mc ms (F0 m pc ls st0) rest (va_Qi post (fun (u : mS) t => mW G u.2 t) (mA G) av) (mA G))
    (kk : ∀ (r : Int32) (rho : Nat → Nat × Nat) (f1 : mF) (H1 : Heap) (locs1 : List Loc), post r (rho, f1) → mH G s f1 H1 locs1 → W p l e R s m args below meth c H1 locs1 (cells + mc) (slots + ms) Q (F0 m (pc + 3) ls (.int r :: rest))) : W p l e R s m args below meth c H locs cells slots Q (F0 m pc ls st0) :=
  va_calli hr h.2.2 (fun q _ hq => hq) (fun q hq => hq) (fun r u t H1 locs1 ht _ hp hB _ _ hS => kk r u.1 u.2 H1 locs1 hp ⟨hB.2.1, by rw [← ht]; exact hB.2.2.1, hS⟩)
theorem m_gol {post : Int64 → mS → Prop} (h : mH G s f H locs) (hr : va_Run p l e R s m args below meth c H locs cells slots mc ms (F0 m pc ls st0) rest (va_Ql post (fun (u : mS) t => mW G u.2 t) (mA G) av) (mA G))
    (kk : ∀ (r : Int64) (rho : Nat → Nat × Nat) (f1 : mF) (H1 : Heap) (locs1 : List Loc), post r (rho, f1) → mH G s f1 H1 locs1 → W p l e R s m args below meth c H1 locs1 (cells + mc) (slots + ms) Q (F0 m (pc + 3) ls (.long r :: rest))) : W p l e R s m args below meth c H locs cells slots Q (F0 m pc ls st0) :=
  va_calll hr h.2.2 (fun q _ hq => hq) (fun q hq => hq) (fun r u t H1 locs1 ht _ hp hB _ _ hS => kk r u.1 u.2 H1 locs1 hp ⟨hB.2.1, by rw [← ht]; exact hB.2.2.1, hS⟩)
theorem m_gov {post : mS → Prop} (h : mH G s f H locs) (hr : va_Run p l e R s m args below meth c H locs cells slots mc ms (F0 m pc ls st0) rest (va_Qv post (fun (u : mS) t => mW G u.2 t) (mA G) av) (mA G))
    (kk : ∀ (rho : Nat → Nat × Nat) (f1 : mF) (H1 : Heap) (locs1 : List Loc), post (rho, f1) → mH G s f1 H1 locs1 → W p l e R s m args below meth c H1 locs1 (cells + mc) (slots + ms) Q (F0 m (pc + 3) ls rest)) : W p l e R s m args below meth c H locs cells slots Q (F0 m pc ls st0) :=
  va_callv hr h.2.2 (fun q _ hq => hq) (fun q hq => hq) (fun u t H1 locs1 ht _ hp hB _ _ hS => kk u.1 u.2 H1 locs1 hp ⟨hB.2.1, by rw [← ht]; exact hB.2.2.1, hS⟩)
theorem m_goq {post : Option Nat → mS → Prop} (h : mH G s f H locs) (hr : va_Run p l e R s m args below meth c H locs cells slots mc ms (F0 m pc ls st0) rest (va_Qq post (fun (u : mS) t => mW G u.2 t) (mA G) av) (mA G))
    (kk : ∀ (r : Option Nat) (rho : Nat → Nat × Nat) (f1 : mF) (H1 : Heap) (locs1 : List Loc), post r (rho, f1) → mH G s f1 H1 locs1 → W p l e R s m args below meth c H1 locs1 (cells + mc) (slots + ms) Q (F0 m (pc + 3) ls (va_rf r :: rest))) : W p l e R s m args below meth c H locs cells slots Q (F0 m pc ls st0) :=
  va_callq hr h.2.2 (fun q _ hq => hq) (fun q hq => hq) (fun r u t H1 locs1 ht _ hp hB _ _ hS => kk r u.1 u.2 H1 locs1 hp ⟨hB.2.1, by rw [← ht]; exact hB.2.2.1, hS⟩)
theorem m_iret {post : Int32 → mS → Prop} {v : Int32} (hexec : p.tables.exec = Jvm.exec) (hb : c.code = cc) (hr : meth.sig.returnType = some .int) (hlocks : meth.locks = false) (C0 : mC G s) (h : mH G s f H locs) (rho : Nat → Nat × Nat) (hp : post v (rho, f)) (h1 : cells ≤ mc) (h2 : slots ≤ ms) (hdg : decode cc pc = .ok (.ireturn, 1)) : W p l e R s m args below meth c H locs cells slots (MQ below (va_Qi post (fun (u : mS) t => mW G u.2 t) (mA G)) args s mc ms (mA G)) (F0 m pc ls [.int v]) :=
  W.widen h1 h2 (W.iret hexec hb hr (fun t ht hW => ⟨⟨v, (rho, f), rfl, hp, h.post C0 ht hW⟩, h.2.2.F ht⟩) h.2.2.2.2 hdg)
theorem m_zret {post : Int32 → mS → Prop} {v : Int32} (hexec : p.tables.exec = Jvm.exec) (hb : c.code = cc) (hr : meth.sig.returnType = some .boolean) (hn : narrow .boolean (.int v) = .int v) (hlocks : meth.locks = false) (C0 : mC G s) (h : mH G s f H locs) (rho : Nat → Nat × Nat) (hp : post v (rho, f)) (h1 : cells ≤ mc) (h2 : slots ≤ ms) (hdg : decode cc pc = .ok (.ireturn, 1)) : W p l e R s m args below meth c H locs cells slots (MQ below (va_Qi post (fun (u : mS) t => mW G u.2 t) (mA G)) args s mc ms (mA G)) (F0 m pc ls [.int v]) :=
  W.widen h1 h2 (W.zret hexec hb hr hn (fun t ht hW => ⟨⟨v, (rho, f), rfl, hp, h.post C0 ht hW⟩, h.2.2.F ht⟩) h.2.2.2.2 hdg)
theorem m_lret {post : Int64 → mS → Prop} {v : Int64} (hexec : p.tables.exec = Jvm.exec) (hb : c.code = cc) (hr : meth.sig.returnType = some .long) (hlocks : meth.locks = false) (C0 : mC G s) (h : mH G s f H locs) (rho : Nat → Nat × Nat) (hp : post v (rho, f)) (h1 : cells ≤ mc) (h2 : slots ≤ ms) (hdg : decode cc pc = .ok (.lreturn, 1)) : W p l e R s m args below meth c H locs cells slots (MQ below (va_Ql post (fun (u : mS) t => mW G u.2 t) (mA G)) args s mc ms (mA G)) (F0 m pc ls [.long v]) :=
  W.widen h1 h2 (W.lret hexec hb hr (fun t ht hW => ⟨⟨v, (rho, f), rfl, hp, h.post C0 ht hW⟩, h.2.2.F ht⟩) h.2.2.2.2 hdg)
theorem m_vret {post : mS → Prop} (hexec : p.tables.exec = Jvm.exec) (hb : c.code = cc) (hr : meth.sig.returnType = none) (hlocks : meth.locks = false) (C0 : mC G s) (h : mH G s f H locs) (rho : Nat → Nat × Nat) (hp : post (rho, f)) (h1 : cells ≤ mc) (h2 : slots ≤ ms) (hdg : decode cc pc = .ok (.return_, 1)) : W p l e R s m args below meth c H locs cells slots (MQ below (va_Qv post (fun (u : mS) t => mW G u.2 t) (mA G)) args s mc ms (mA G)) (F0 m pc ls []) :=
  W.widen h1 h2 (W.vret hexec hb hr (fun t ht hW => ⟨⟨(rho, f), rfl, hp, h.post C0 ht hW⟩, h.2.2.F ht⟩) h.2.2.2.2 hdg)
theorem m_aret {post : Option Nat → mS → Prop} {v : Option Nat} {Cn : String} (hexec : p.tables.exec = Jvm.exec) (hb : c.code = cc) (hr : meth.sig.returnType = some (.object Cn)) (hlocks : meth.locks = false) (C0 : mC G s) (h : mH G s f H locs) (rho : Nat → Nat × Nat) (hp : post v (rho, f)) (h1 : cells ≤ mc) (h2 : slots ≤ ms) (hdg : decode cc pc = .ok (.areturn, 1)) : W p l e R s m args below meth c H locs cells slots (MQ below (va_Qq post (fun (u : mS) t => mW G u.2 t) (mA G)) args s mc ms (mA G)) (F0 m pc ls [va_rf v]) :=
  W.widen h1 h2 (W.aret hexec hb hr (Or.inl ⟨_, rfl⟩) (by cases v with | none => exact Or.inl rfl | some a => exact Or.inr ⟨a, rfl⟩) (fun t ht hW => ⟨⟨v, (rho, f), rfl, hp, h.post C0 ht hW⟩, h.2.2.F ht⟩) h.2.2.2.2 hdg)
end MR
/-- a contract's proof begins here -/
theorem mMet {l : Launch} {y : MethodName} {ws ws' : List Cond} {rm : Room} {Qc : Array Value → State → Outcome → State → Prop} {mc ms : Nat} {G : mG} {f : mF} {cc : ByteArray} {maxL : Nat} {ret : Option FieldType} (av : List Value) (hy : plainName y.cls = true) (hw : ws = Cond.code y cc maxL ret :: ws') (hlen : (lg_sl av).length ≤ maxL)
    (body : ∀ (p : Program) (e : Env) (s : State) (m : MethodId) (below : List Frame) (meth : Method) (c : Code) (ls : Array Slot), p.tables.exec = Jvm.exec → c.code = cc → meth.sig.returnType = ret → c.maxLocals = maxL → (∀ w ∈ ws, w.before av.toArray s = true) → s.vm.findClass y.cls = some m.cls → meth.locks = false → meth.name = y.name → mC G s → mH G s f s.heap [] → lv_has ls maxL (lv_args 0 av) →
      W p l e rm s m av.toArray below meth c s.heap [] 0 0 (MQ below Qc av.toArray s mc ms (mA G)) (F0 m 0 ls [])) : Met l y ws rm (va_Pc av (mW G f)) Qc mc ms (mA G) := by
  refine Met.ofW (cc := cc) (maxL := maxL) (ret := ret) hy hw ?_
  intro p e s m args below meth c s₁ B hml hv
  obtain ⟨rfl, hW⟩ := hv
  obtain ⟨C0, h⟩ := mH.start hW
  rw [lg_entry_eq]
  exact body p e s m below meth c _ B.exec B.bytes B.returns hml (atoms_spec (ws := ws) B.pre) (findClass_of_methodNamed B.named) B.notSynchronized (name_of_methodNamed B.named B.method).1 C0 h (lv_entry av hlen)
